theorem tree_ok {scr : List Int32} {b' : Nat} {F : Nat → Nat → List sEv → sQ → sQ → Bool} {k : Nat → (Nat → Int) → Prop} (n : Nat) : ∀ (T : List sEv) (B : sB) (m : Nat) (X : Nat → Int) (L : List sEv) (I Q : sQ), tchk b' n T B m = true → exT F n T L I Q = true → blw m B = true → inB X B → evG scr m X L → qiG scr m X I → qlG scr m X Q → wpT k n T X →
    ∃ X1 i N L1 I1 Q1, agr m X X1 ∧ evG scr b' X1 L1 ∧ qiG scr b' X1 I1 ∧ qlG scr b' X1 Q1 ∧ F i N L1 I1 Q1 = true ∧ k i X1 := by
  induction n with
  | zero => intro T B m X L I Q h; cases h
  | succ n ih =>
    intro T B m X L I Q h1 h2 hw hB hL hI hQ hk
    cases T with
    | nil => cases h1
    | cons nd t =>
      obtain ⟨kd, s, a, b, c, z⟩ := nd
      have fresh : ∀ {zj : Nat} {y : Int} {p : Int × Int} {L' : List sEv} {I' Q' : sQ}, m ≤ zj → p.1 ≤ y → y ≤ p.2 → tchk b' n t ((zj, p.1, p.2) :: B) (zj + 1) = true → exT F n t L' I' Q' = true → evG scr (zj + 1) (udX X zj y) L' → qiG scr (zj + 1) (udX X zj y) I' → qlG scr (zj + 1) (udX X zj y) Q' → wpT k n t (udX X zj y) →
          ∃ X1 i N L1 I1 Q1, agr m X X1 ∧ evG scr b' X1 L1 ∧ qiG scr b' X1 I1 ∧ qlG scr b' X1 Q1 ∧ F i N L1 I1 Q1 = true ∧ k i X1 := by
        intro zj y p L' I' Q' hz hp1 hp2 k1 k2 k3 k4 k5 k6
        obtain ⟨X1, i, N, L1, I1, Q1, r1, r2⟩ := ih t _ _ _ _ _ _ k1 k2 (blw_cons (by omega) (blw_mo hw (by omega))) (inB_mo hB hw hz hp1 hp2) k3 k4 k5 k6
        exact ⟨X1, i, N, L1, I1, Q1, agr_t (agr_u hz) (by omega) (agr_s r1 (by omega) : agr m _ _), r2⟩
      have fresh2 : ∀ {zj : Nat} {y : Int} {L' : List sEv} {I' Q' : sQ}, m ≤ zj → tchk b' n t B (zj + 1) = true → exT F n t L' I' Q' = true → evG scr (zj + 1) (udX X zj y) L' → qiG scr (zj + 1) (udX X zj y) I' → qlG scr (zj + 1) (udX X zj y) Q' → wpT k n t (udX X zj y) →
          ∃ X1 i N L1 I1 Q1, agr m X X1 ∧ evG scr b' X1 L1 ∧ qiG scr b' X1 I1 ∧ qlG scr b' X1 Q1 ∧ F i N L1 I1 Q1 = true ∧ k i X1 := by
        intro zj y L' I' Q' hz k1 k2 k3 k4 k5 k6
        obtain ⟨X1, i, N, L1, I1, Q1, r1, r2⟩ := ih t _ _ _ _ _ _ k1 k2 (blw_mo hw (by omega)) (inB_ag hB hw (agr_u hz)) k3 k4 k5 k6
        exact ⟨X1, i, N, L1, I1, Q1, agr_t (agr_u hz) (by omega) (agr_s r1 (by omega) : agr m _ _), r2⟩
      match kd, h1, h2, hk with
      | 1, h1, h2, hk =>
        obtain ⟨g1, h1⟩ := cond_f h1
        obtain ⟨g2, h1⟩ := cond_f h1
        obtain ⟨g3, h1⟩ := cond_f h1
        obtain ⟨g4, h1⟩ := cond_f h1
        obtain ⟨g5, h1⟩ := cond_f h1
        have g4 := ble_t g4
        cases gp : bll B a with
        | none => rw [gp] at h1; cases h1
        | some p =>
          cases gq : bll B b with
          | none => rw [gp, gq] at h1; cases h1
          | some q =>
            rw [gp, gq] at h1
            cases gr : nbd s c.1 p q with
            | none =>
              have h1 : (match nbd s c.1 p q with | some r => tchk b' n t ((z.2, r.1, r.2) :: B) (z.2 + 1) | none => false) = true := h1
              rw [gr] at h1; cases h1
            | some r =>
              have h1 : (match nbd s c.1 p q with | some r => tchk b' n t ((z.2, r.1, r.2) :: B) (z.2 + 1) | none => false) = true := h1
              rw [gr] at h1
              have b1 := bll_ok hB gp
              have b2 := bll_ok hB gq
              have h5 := nbd_ok (scr := scr) (X := X) g1 g2 gr b1 b2
              have h5 := h5.resolve_right (by have := ble_t g5; omega)
              refine fresh (p := r) g4 h5.1.1 h5.1.2 h1 h2 (evG_cons (evG_mo hL g4) ?_) (qiG_mo hI g4) (qlG_mo hQ g4) (hk _ rfl)
              intro Y hY
              have aY : agr m X Y := agr_t (agr_u g4) (by omega) (agr_s hY (by omega) : agr m _ _)
              have h6 := nbd_ok (scr := scr) (X := Y) g1 g2 gr (by rw [← xl_ag g1 aY]; exact b1) (by rw [← xl_ag g2 aY]; exact b2)
              have h6 := (h6.resolve_right (by have := ble_t g5; omega)).2
              have e1 : cl (mE scr Y) z = Int64.ofInt (nval Y s a b c) := by
                have e3 := hY z.2 (by omega)
                rw [udX_s] at e3
                have e4 : nval X s a b c = nval Y s a b c := by
                  unfold nval
                  rw [xl_ag g1 aY, xl_ag g2 aY]
                rw [← e4, e3, cl_x (m := z.2 + 1) (by unfold okl; rw [beq_t g3]; show Nat.blt z.2 (z.2 + 1) = true; exact blt_ye (by omega))]
                unfold xl
                rw [beq_t g3]
                rfl
              show evL s (cl (mE scr Y) a) (cl (mE scr Y) b) (cl (mE scr Y) z)
              rw [e1]
              exact h6
      | 3, h1, h2, hk =>
        obtain ⟨g1, h1⟩ := cond_f h1
        obtain ⟨g3, h1⟩ := cond_f h1
        obtain ⟨g4, h1⟩ := cond_f h1
        have g4 := ble_t g4
        cases gp : bll B a with
        | none => rw [gp] at h1; cases h1
        | some p =>
          rw [gp] at h1
          have b1 := bll_ok hB gp
          refine fresh (p := (-p.2, -p.1)) g4 (Int.neg_le_neg b1.2) (Int.neg_le_neg b1.1) h1 h2 (evG_cons (evG_mo hL g4) ?_) (qiG_mo hI g4) (qlG_mo hQ g4) (hk _ rfl)
          intro Y hY
          have aY : agr m X Y := agr_t (agr_u g4) (by omega) (agr_s hY (by omega) : agr m _ _)
          have e3 := hY z.2 (by omega)
          rw [udX_s] at e3
          show cl (mE scr Y) z = -(cl (mE scr Y) a)
          rw [cl_x g1, ← xl_ag g1 aY, ← Int64.ofInt_neg, e3, cl_x (m := z.2 + 1) (by unfold okl; rw [beq_t g3]; show Nat.blt z.2 (z.2 + 1) = true; exact blt_ye (by omega))]
          unfold xl
          rw [beq_t g3]
          rfl
      | 22, h1, h2, hk =>
        cases gs : Nat.beq s 0 with
        | true =>
          have h1 := cond_l h1 gs
          have h2 := cond_l h2 gs
          have hk := cond_lp hk gs
          obtain ⟨g1, h1⟩ := cond_f h1
          obtain ⟨g3, h1⟩ := cond_f h1
          obtain ⟨g4, h1⟩ := cond_f h1
          have g4 := ble_t g4
          have hq2 : qlG scr (z.2 + 1) (udX X z.2 (xl X a)) ((a, z) :: Q) := by
            intro Y hY pr hpr
            have aY : agr m X Y := agr_t (agr_u g4) (by omega) (agr_s hY (by omega) : agr m _ _)
            rcases List.mem_cons.mp hpr with rfl | h9
            · have e3 := hY z.2 (by omega)
              rw [udX_s] at e3
              refine ⟨okl_L g1, by show Nat.beq (z.1 % 4) 1 = true; rw [beq_t g3]; rfl, ?_⟩
              show cl (mE scr Y) a = cl (mE scr Y) z
              rw [cl_x g1, ← xl_ag g1 aY, e3, cl_x (m := z.2 + 1) (by unfold okl; rw [beq_t g3]; show Nat.blt z.2 (z.2 + 1) = true; exact blt_ye (by omega))]
              unfold xl
              rw [beq_t g3]
              rfl
            · exact hQ Y aY _ h9
          cases gp : bll B a with
          | none =>
            rw [gp] at h1
            exact fresh2 g4 h1 h2 (evG_mo hL g4) (qiG_mo hI g4) hq2 (hk _ rfl)
          | some p =>
            rw [gp] at h1
            have b1 := bll_ok hB gp
            exact fresh (p := p) g4 b1.1 b1.2 h1 h2 (evG_mo hL g4) (qiG_mo hI g4) hq2 (hk _ rfl)
        | false =>
          have h1 := cond_r h1 gs
          have h2 := cond_r h2 gs
          have hk := cond_rp hk gs
          obtain ⟨g1, h1⟩ := cond_f h1
          obtain ⟨g3, h1⟩ := cond_f h1
          obtain ⟨g5, h1⟩ := cond_f h1
          obtain ⟨g4, h1⟩ := cond_f h1
          have g4 := ble_t g4
          have g5 := ble_t g5
          have hq2 : qiG scr (z.2 + 1) (udX X z.2 (xi X a)) ((a, z) :: I) := by
            intro Y hY pr hpr
            have aY : agr m X Y := agr_t (agr_u g4) (by omega) (agr_s hY (by omega) : agr m _ _)
            rcases List.mem_cons.mp hpr with rfl | h9
            · have e3 := hY z.2 (by omega)
              rw [udX_s] at e3
              refine ⟨oki_I g1, by show Nat.beq (z.1 % 4) 0 = true; rw [beq_t g3]; rfl, ?_⟩
              show ci (mE scr Y) a = ci (mE scr Y) z
              rw [ci_x g1, ← xi_ag g1 aY, e3, ci_x (m := z.2 + 1) (by unfold oki; rw [beq_t g3]; show cond (Nat.blt z.2 14) false (Nat.blt z.2 (z.2 + 1)) = true; rw [blt_no (by omega)]; exact blt_ye (by omega))]
              unfold xi
              rw [beq_t g3]
              rfl
            · exact hI Y aY _ h9
          cases gp : bli B a with
          | none =>
            rw [gp] at h1
            exact fresh2 g4 h1 h2 (evG_mo hL g4) hq2 (qlG_mo hQ g4) (hk _ rfl)
          | some p =>
            rw [gp] at h1
            have b1 := bli_ok hB gp
            exact fresh (p := p) g4 b1.1 b1.2 h1 h2 (evG_mo hL g4) hq2 (qlG_mo hQ g4) (hk _ rfl)
      | 23, h1, h2, hk =>
        obtain ⟨g1, h1⟩ := cond_f h1
        obtain ⟨g3, h1⟩ := cond_f h1
        cases gp : bli B a with
        | none => rw [gp] at h1; cases h1
        | some p =>
          rw [gp] at h1
          obtain ⟨g4, h1⟩ := cond_f h1
          obtain ⟨g5, h1⟩ := cond_f h1
          have g4 := ile_t g4
          have g5 := ile_t g5
          have b1 := bli_ok hB gp
          refine ih _ _ _ _ _ _ _ h1 h2 hw hB hL ?_ hQ hk
          intro Y aY pr hpr
          rcases List.mem_cons.mp hpr with rfl | h9
          · refine ⟨oki_I g1, by show Nat.beq (z.1 % 4) 0 = true; rw [beq_t g3]; rfl, ?_⟩
            show ci (mE scr Y) a = ci (mE scr Y) z
            have e5 : xi X a = xi Y z := by
              have e6 : xi Y z = kI z.2 := by unfold xi; rw [g3]; rfl
              omega
            rw [ci_x g1, ← xi_ag g1 aY, e5, ci_x (m := m) (by unfold oki; rw [g3]; rfl)]
          · exact hI Y aY _ h9
      | 4, h1, h2, hk =>
        obtain ⟨g1, h1⟩ := cond_f h1
        obtain ⟨g2, h1⟩ := cond_f h1
        cases gp : bll B a with
        | none => rw [gp] at h1; cases h1
        | some p =>
          cases gq : bll B b with
          | none => rw [gp, gq] at h1; cases h1
          | some q =>
            rw [gp, gq] at h1
            obtain ⟨g3, h1⟩ := cond_f h1
            obtain ⟨g4, h1⟩ := cond_f h1
            have b1 := bll_ok hB gp
            have b2 := bll_ok hB gq
            obtain ⟨x1, h2⟩ := cond_f h2
            obtain ⟨x2, x3⟩ := cond_f h2
            refine t3w_ok (iw := fun t => wpT k n t X) (x := xl X a) (y := xl X b) h1 hk b1 b2 ?_ ?_ ?_
            · intro hc u k1 k2
              refine ih _ _ _ _ _ _ _ k1 (cond_l x1 u) (rfl_w g2 (rfl_w g1 hw)) (rfl_ok g2 (rfl_ok g1 hB b1.1 (imn_ge b1.2 (by omega))) (imx_le b2.1 (by omega)) b2.2) (evG_cons hL ?_) hI hQ k2
              intro Y aY
              show (-1 : Int32) = lg_cmp (cl (mE scr Y) a) (cl (mE scr Y) b)
              rw [cl_x g1, cl_x g2, ← xl_ag g1 aY, ← xl_ag g2 aY]
              exact (lg_lt (irg_ok g3 b1) (irg_ok g4 b2) hc).symm
            · intro hc u k1 k2
              refine ih _ _ _ _ _ _ _ k1 (cond_l x2 u) (rfl_w g2 (rfl_w g1 hw)) (rfl_ok g2 (rfl_ok g1 hB (imx_le b1.1 (by omega)) (imn_ge b1.2 (by omega))) (imx_le (by omega) b2.1) (imn_ge (by omega) b2.2)) (evG_cons hL ?_) hI hQ k2
              intro Y aY
              show (0 : Int32) = lg_cmp (cl (mE scr Y) a) (cl (mE scr Y) b)
              rw [cl_x g1, cl_x g2, ← xl_ag g1 aY, ← xl_ag g2 aY, hc]
              exact lg_eq.symm
            · intro hc u k1 k2
              refine ih _ _ _ _ _ _ _ k1 (cond_l x3 u) (rfl_w g1 (rfl_w g2 hw)) (rfl_ok g1 (rfl_ok g2 hB b2.1 (imn_ge b2.2 (by omega))) (imx_le b1.1 (by omega)) b1.2) (evG_cons hL ?_) hI hQ k2
              intro Y aY
              show (1 : Int32) = lg_cmp (cl (mE scr Y) a) (cl (mE scr Y) b)
              rw [cl_x g1, cl_x g2, ← xl_ag g1 aY, ← xl_ag g2 aY]
              exact (lg_gt (irg_ok g3 b1) (irg_ok g4 b2) hc).symm
      | 30, h1, h2, hk =>
        obtain ⟨x1, h2⟩ := cond_f h2
        obtain ⟨x2, x3⟩ := cond_f h2
        cases gs : Nat.beq s 0 with
        | true =>
          have h1 := cond_l h1 gs
          have hk := cond_lp hk gs
          obtain ⟨g1, h1⟩ := cond_f h1
          obtain ⟨g2, h1⟩ := cond_f h1
          cases gp : bll B a with
          | none => rw [gp] at h1; cases h1
          | some p =>
            cases gq : bll B b with
            | none => rw [gp, gq] at h1; cases h1
            | some q =>
              rw [gp, gq] at h1
              have b1 := bll_ok hB gp
              have b2 := bll_ok hB gq
              refine t3w_ok h1 hk b1 b2 ?_ ?_ ?_
              · intro hc u k1 k2
                exact ih _ _ _ _ _ _ _ k1 (cond_l x1 u) (rfl_w g2 (rfl_w g1 hw)) (rfl_ok g2 (rfl_ok g1 hB b1.1 (imn_ge b1.2 (by omega))) (imx_le b2.1 (by omega)) b2.2) hL hI hQ k2
              · intro hc u k1 k2
                exact ih _ _ _ _ _ _ _ k1 (cond_l x2 u) (rfl_w g2 (rfl_w g1 hw)) (rfl_ok g2 (rfl_ok g1 hB (imx_le b1.1 (by omega)) (imn_ge b1.2 (by omega))) (imx_le (by omega) b2.1) (imn_ge (by omega) b2.2)) hL hI hQ k2
              · intro hc u k1 k2
                exact ih _ _ _ _ _ _ _ k1 (cond_l x3 u) (rfl_w g1 (rfl_w g2 hw)) (rfl_ok g1 (rfl_ok g2 hB b2.1 (imn_ge b2.2 (by omega))) (imx_le b1.1 (by omega)) b1.2) hL hI hQ k2
        | false =>
          have h1 := cond_r h1 gs
          have hk := cond_rp hk gs
          obtain ⟨g1, h1⟩ := cond_f h1
          obtain ⟨g2, h1⟩ := cond_f h1
          cases gp : bli B a with
          | none => rw [gp] at h1; cases h1
          | some p =>
            cases gq : bli B b with
            | none => rw [gp, gq] at h1; cases h1
            | some q =>
              rw [gp, gq] at h1
              have b1 := bli_ok hB gp
              have b2 := bli_ok hB gq
              refine t3w_ok h1 hk b1 b2 ?_ ?_ ?_
              · intro hc u k1 k2
                exact ih _ _ _ _ _ _ _ k1 (cond_l x1 u) (rfi_w g2 (rfi_w g1 hw)) (rfi_ok g2 (rfi_ok g1 hB b1.1 (imn_ge b1.2 (by omega))) (imx_le b2.1 (by omega)) b2.2) hL hI hQ k2
              · intro hc u k1 k2
                exact ih _ _ _ _ _ _ _ k1 (cond_l x2 u) (rfi_w g2 (rfi_w g1 hw)) (rfi_ok g2 (rfi_ok g1 hB (imx_le b1.1 (by omega)) (imn_ge b1.2 (by omega))) (imx_le (by omega) b2.1) (imn_ge (by omega) b2.2)) hL hI hQ k2
              · intro hc u k1 k2
                exact ih _ _ _ _ _ _ _ k1 (cond_l x3 u) (rfi_w g1 (rfi_w g2 hw)) (rfi_ok g1 (rfi_ok g2 hB b2.1 (imn_ge b2.2 (by omega))) (imx_le b1.1 (by omega)) b1.2) hL hI hQ k2
      | 5, h1, h2, hk =>
        obtain ⟨g1, h1⟩ := cond_f h1
        obtain ⟨g2, h1⟩ := cond_f h1
        cases gp : bli B a with
        | none => rw [gp] at h1; cases h1
        | some p =>
          cases gq : bli B b with
          | none => rw [gp, gq] at h1; cases h1
          | some q =>
            rw [gp, gq] at h1
            obtain ⟨g3, h1⟩ := cond_f h1
            have b1 := bli_ok hB gp
            have b2 := bli_ok hB gq
            refine ih _ _ _ _ _ _ _ h1 h2 hw hB (evG_cons hL ?_) hI hQ hk
            intro Y aY
            show bcmp .ne (ci (mE scr Y) a) (ci (mE scr Y) b) = Nat.beq z.2 1
            rw [ci_x g1, ci_x g2, ← xi_ag g1 aY, ← xi_ag g2 aY]
            exact if_ne b1 b2 g3
      | 21, h1, h2, hk =>
        have g1 := ble_t h1
        exact ⟨X, s, a.1, L, I, Q, agr_r, fun q hq Y aY => hL q hq Y (agr_s aY g1), fun Y aY => hI Y (agr_s aY g1), fun Y aY => hQ Y (agr_s aY g1), h2, hk⟩
      | 0, h1, _, _ => cases h1
      | 2, h1, _, _ => cases h1
/-! A stage: from a place, with unknowns between bounds, by a tree of paths, to other places (or the end: leaf 99; leaf 98: it can't be). -/
noncomputable def exF (tg : List sP) (C : sK) (p : sP) : Nat → Nat → List sEv → sQ → sQ → Bool := fun i N L I Q => cond (Nat.beq i 99) (sexecE hkN L pfin znv N C p.1 p.2.1 p.2.2.1 p.2.2.2.1 p.2.2.2.2.1 p.2.2.2.2.2.1 p.2.2.2.2.2.2) (cond (Nat.beq i 98) true (match tg[i]? with
  | some g => sexecE hkN L fnv (zeE I Q g) N C p.1 p.2.1 p.2.2.1 p.2.2.2.1 p.2.2.2.2.1 p.2.2.2.2.2.1 p.2.2.2.2.2.2
  | none => false))
/-- what is to be shown at a leaf -/
def lfG (scr : List Int32) (b' : Nat) (tg : List sP) (i : Nat) (X : Nat → Int) : Prop := cond (Nat.beq i 99) True (cond (Nat.beq i 98) False (match tg[i]? with
  | some g => ∃ X2, agr b' X X2 ∧ pRun scr pF (mE scr X2) g
  | none => True))
theorem st_go {scr : List Int32} (hl : scr.length < 2147483648) {tg : List sP} {C : sK} {p : sP} {b' n m : Nat} {T : List sEv} {B : sB} {X : Nat → Int} (h1 : tchk b' n T B m = true) (h2 : exT (exF tg C p) n T [] [] [] = true) (hw : cond (blw m B) (cond (Nat.ble 3 m) (cond (Nat.ble m b') (ckl C) false) false) false = true)
    (hC : cok (senv scr) C) (hX : mX scr X) (hB : inB X B) (hk : wpT (lfG scr b' tg) n T X) : ∃ X2, agr m X X2 ∧ pRun scr pF (mE scr X2) p := by
  obtain ⟨w1, hw⟩ := cond_f hw
  obtain ⟨w2, hw⟩ := cond_f hw
  obtain ⟨w4, w3⟩ := cond_f hw
  have w2 := ble_t w2
  have w4 := ble_t w4
  obtain ⟨X1, i, N, L, I, Q, r1, r2, r3, r4, r5, r6⟩ := tree_ok (scr := scr) n T B m X [] [] [] h1 h2 w1 hB (fun _ h => nomatch h) (fun _ _ _ h => nomatch h) (fun _ _ _ h => nomatch h) hk
  have hX1 := mX_ag hX w2 r1
  cases hi : Nat.beq i 99 with
  | true =>
    refine ⟨X1, r1, ?_⟩
    have h3 : sexecE hkN L pfin znv N C p.1 p.2.1 p.2.2.1 p.2.2.2.1 p.2.2.2.2.1 p.2.2.2.2.2.1 p.2.2.2.2.2.2 = true := cond_l r5 hi
    exact sexecE_ok (mE_R hl hX1) hkN_ok (fun q hq => r2 q hq X1 agr_r) pfin_ok (fun _ _ _ _ _ _ _ _ _ h => by cases (show false = true from h)) N _ _ _ _ _ _ _ _ (mE_cok hC w3) h3
  | false =>
    have h3 := cond_r r5 hi
    have h4 := cond_rp r6 hi
    cases hj : Nat.beq i 98 with
    | true => exact (cond_lp h4 hj).elim
    | false =>
    have h3 := cond_r h3 hj
    have h4 := cond_rp h4 hj
    cases hg : tg[i]? with
    | none => rw [hg] at h3; cases h3
    | some g =>
      rw [hg] at h3 h4
      obtain ⟨X2, a1, k1⟩ := h4
      refine ⟨X2, agr_t r1 w4 a1, ?_⟩
      exact sexecE_ok (mE_R hl (mX_ag hX1 (by omega) a1)) hkN_ok (fun q hq => r2 q hq X2 a1) (fun _ _ _ _ h => by cases (show false = true from h)) (zeE_ok (r3 X2 a1) (r4 X2 a1) k1) N _ _ _ _ _ _ _ _ (mE_cok hC w3) h3
theorem lf_99 {scr : List Int32} {b' : Nat} {tg : List sP} {X : Nat → Int} : lfG scr b' tg 99 X := trivial
abbrev Go (scr : List Int32) (b : Nat) (P : sP) (X : Nat → Int) : Prop := ∃ X2, agr b X X2 ∧ pRun scr pF (mE scr X2) P
noncomputable def stl {α : Type} (d : Nat) (t : Tr α d) (l : List (Nat × α)) : Tr α d := match l with
  | [] => t
  | p :: r => stl d (tset d t p.1 p.2) r
/-- the world ahead of the first call, with other cells -/
noncomputable def swl (x : Nat) (l : List (Nat × sC)) : sW := (691, x, stl 10 sW1.2.2 l)
noncomputable def scl0 (k ty n : Nat) (z : sV) (d : Nat) (l : List (Nat × sV)) : sC := (k, ty, n, ⟨d, stl d (trep z d) l⟩)
theorem lf_go {scr : List Int32} {b' : Nat} {tg : List sP} {i : Nat} {X : Nat → Int} {P : sP} (h1 : Nat.beq i 99 = false) (h2 : Nat.beq i 98 = false) (hg : tg[i]? = some P) (h : Go scr b' P X) : lfG scr b' tg i X := by
  unfold lfG
  rw [h1, h2, hg]
  exact h
theorem lf_no {scr : List Int32} {b' : Nat} {tg : List sP} {X : Nat → Int} (h : False) : lfG scr b' tg 98 X := h.elim
theorem mX_mk {scr : List Int32} {X : Nat → Int} (h0 : X 0 = ((senv scr).2.1 0).toInt) (h1 : X 1 = ((senv scr).2.1 1).toInt) (h2 : X 2 = ((senv scr).2.1 2).toInt) : mX scr X := ⟨h0, h1, h2⟩
theorem nrg {scr : List Int32} {X : Nat → Int} (h : mX scr X) : -9223372036854775808 ≤ X 2 ∧ X 2 ≤ 9223372036854775807 := by
  rw [h.2.2]
  have h1 := Int64.toInt_lt ((senv scr).2.1 2)
  have h2 := Int64.le_toInt ((senv scr).2.1 2)
  exact ⟨by omega, by omega⟩
