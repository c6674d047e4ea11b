/-! The logic without memory is sound, whole. -/
theorem tsw_mono {F G : Nat → Prop} {pc : Nat} {d x : Int} (hfg : ∀ q, F q → G q) : ∀ ps : List (Int × Int), tsw F pc d ps x → tsw G pc d ps x := by
  intro ps
  induction ps with
  | nil => exact fun h => hfg _ h
  | cons q t ih => exact fun h => ⟨fun e => hfg _ (h.1 e), fun e => ih (h.2 e)⟩
theorem gf_int {M : tM} {r a f kd : Nat} {lo hi : Int} (_ : CI M) (_ : cl r a) (hq : fsf a f = (kd, lo, hi)) (h0 : kd = 0) : tfdc true r a f (M r (f : Nat)) = .inl (M r (f : Nat)) := by
  subst h0
  obtain ⟨ha, hf, hp⟩ := fsf_of hq (show (0 : Nat) ≠ 9 by decide)
  have g := gok_of ha hf
  unfold gok at g
  rw [hp] at g
  have g : (Nat.beq (tfk a f) 0 || (Nat.beq (tfk a f) 3 && (decide (lo = 0) && decide (hi = 1)))) = true := g
  unfold tfdc
  rw [Bool.or_eq_true, Bool.and_eq_true] at g
  rcases g with g | ⟨g, -⟩
  · rw [Nat.eq_of_beq_eq_true g]; rfl
  · rw [Nat.eq_of_beq_eq_true g]; rfl
section SOUND
variable {e : tE} {b : Nat} {M0 : tM} {rk d mi pc : Nat} {L : tL} {st : List tV} {n : Nat} {R : tR → Nat → tM → Prop} {G : GL} {k : GL → tL → List tV → Nat → Prop} {K : tL → List tV → tM → Nat → Prop} {M : tM}
theorem scall_ok {a : Nat} {o : bO} {vs rest : List tV} (hk : ∀ G L st n M, CI M → pE b M0 M → gE G M → k G L st n → K L st M n) (hC : CI M) (hE : pE b M0 M) (hG : gE G M) (h : scall e b M0 d mi a o vs rest G L n R k) : tcall e d mi a o vs rest L M n (sQ b M0 R) K := by
  obtain ⟨d', h1, b2, P, Rc, hb, h2, hP, h3, h4⟩ := h
  have hb' : ∀ M', pE b2 M M' → pE b M M' := by
    intro M' q k i q2
    rcases hb with hb | hb | ⟨hb, hb2⟩ | ⟨hb, hb2⟩ | ⟨hb, hb2⟩
    · rw [hb] at q; exact q k i q2
    · subst hb
      rw [pE_2 q]
    · subst hb
      subst hb2
      exact pE_f q k i q2
    · subst hb2
      refine q k i ?_
      rcases q2 with (q2 | q2 | ⟨q2, q3⟩) | q2 | q2 | q2
      · exact Or.inl (Or.inl q2)
      · exact Or.inl (Or.inr (Or.inl q2))
      · exact Or.inr (Or.inl ⟨by decide, by decide, fun _ q4 => by omega⟩)
      · omega
      · omega
      · exact Or.inr (Or.inr (Or.inr q2))
    · subst hb2
      refine q k i ?_
      rcases q2 with (q2 | q2 | ⟨q2, q3⟩) | q2 | q2 | q2
      · exact Or.inl (Or.inl q2)
      · exact Or.inl (Or.inr (Or.inl q2))
      · exact Or.inl (Or.inr (Or.inr ⟨Or.inr rfl, q3⟩))
      · omega
      · omega
      · exact Or.inr (Or.inr (Or.inr q2))
  refine ⟨d', h1, sQ b2 M (Rc M), h2 M hC (hP M hC hE hG), fun v M' n' q => ?_, fun x M' n' q => ?_⟩
  · obtain ⟨G', g1, g2⟩ := h3 M M' v n' hC hE hG q.1.1 q.1.2 q.2
    exact hk _ _ _ _ _ q.1.1 (pE_tr hE (hb' _ q.1.2)) g1 g2
  · obtain ⟨g1, g2⟩ := h4 M M' x n' hC hG q.1.1 q.1.2 q.2
    exact ⟨g1, ⟨q.1.1, pE_tr hE (hb' _ q.1.2)⟩, g2⟩
theorem sld_ok {t : Nat} {k : List tV → Prop} {K : List tV → Prop} (ht : t = 0 ∨ t = 1 ∨ t = 2 ∨ t = 3) (hk : ∀ s, k s → K s) (hC : CI M) (h : sld t st k) : tld e true t st M K := by
  unfold sld at h
  split at h
  · rename_i i r rest
    obtain ⟨⟨h1, h2, h3⟩, h4⟩ := h
    have ha : arg r i (M r i) := hC.1 r i h1 h3.1
    show (tyk (tsh r)).1 = (if t = 2 then 2 else 1) ∧ (tyk (tsh r)).2.1 = t ∧ (0 ≤ i ∧ i < (tyk (tsh r)).2.2) ∧ K ((if t = 2 then .inr (.inl (tw true (M r i))) else .inl (M r i)) :: rest)
    rcases ht with rfl | rfl | rfl | rfl
    · obtain ⟨g1, g2, -⟩ := akd_0 h2
      exact ⟨g1, g2, h3, hk _ (h4 _ ha (fun q => absurd q (by decide)))⟩
    · obtain ⟨g1, g2, -⟩ := akd_1 h2
      exact ⟨g1, g2, h3, hk _ (h4 _ ha (fun q => absurd q (by decide)))⟩
    · obtain ⟨g1, g2, g3⟩ := akd_2 h2
      refine ⟨g1, g2, h3, hk _ (h4 (w64 (M r i)) ?_ (fun _ => w64_LR _))⟩
      unfold arg
      rcases g3 with g | g | g | g | g <;> rw [g] <;> exact trivial
    · obtain ⟨g1, g2, -⟩ := akd_3 h2
      exact ⟨g1, g2, h3, hk _ (h4 _ ha (fun q => absurd q (by decide)))⟩
  · rename_i i j rest
    show j < 4 ∧ (t = if j = 0 then 2 else 1) ∧ (0 ≤ i ∧ i < txl e j) ∧ K ((if t = 2 then .inr (.inl (txv e j i)) else .inl (txv e j i)) :: rest)
    rcases h with ⟨rfl, rfl, h3, h4⟩ | ⟨rfl, h2, h3, h4⟩
    · refine ⟨by decide, rfl, h3, hk _ (h4 _ ?_ ?_)⟩
      · have hh : ∀ j : Nat, j < 19 → 0 < (bTENS.getD j 0).toInt := by decide +kernel
        exact hh i.toNat (by omega)
      · exact ⟨Int64.le_toInt _, Int64.toInt_lt _⟩
    · rcases h2 with rfl | rfl
      · exact ⟨by decide, rfl, h3, hk _ (h4 _ ⟨Int32.le_toInt _, Int32.toInt_lt _⟩)⟩
      · exact ⟨by decide, rfl, h3, hk _ (h4 _ ⟨Int32.le_toInt _, Int32.toInt_lt _⟩)⟩
  · exact h.elim
theorem ssi_ok {t : Nat} {k : List tV → Prop} {K : List tV → tM → Prop} (ht : t = 0 ∨ t = 1 ∨ t = 3) (hk : ∀ s M, CI M → pE b M0 M → gE G M → k s → K s M) (hC : CI M) (hE : pE b M0 M) (hG : gE G M) (h : ssi b t st k) : tsi t st M K := by
  unfold ssi at h
  split at h
  · rename_i x i r rest
    obtain ⟨hb2, h0, h2, h3, h4⟩ := h
    have h9 : t ≠ 9 := by rcases ht with h | h | h <;> omega
    have hp : CI (tU M r i x) ∧ pE b M0 (tU M r i x) := ⟨CI_put hC rfl (fun _ => h2) h3.2, pE_tr hE (pE_put (prt_a hb2 h0 h9 h3.1))⟩
    have hg : gE G (tU M r i x) := gE_arr (by rw [h0.2.1]; exact h9) hG
    obtain ⟨h1, h5, h6⟩ := h0
    unfold arg at h2
    show (tyk (tsh r)).1 = 1 ∧ (tyk (tsh r)).2.1 = t ∧ (0 ≤ i ∧ i < (tyk (tsh r)).2.2) ∧ (t ≠ 1 → 0 ≤ x ∧ x ≤ (if t = 0 then 65535 else 1)) ∧ K rest (tU M r i x)
    rcases ht with rfl | rfl | rfl
    · obtain ⟨g1, g2, g3⟩ := akd_0 h5
      have h2 : 0 ≤ x ∧ x ≤ 65535 := by rcases g3 with g | g <;> rw [g] at h2 <;> exact h2
      exact ⟨g1, g2, h6, fun _ => h2, hk _ _ hp.1 hp.2 hg h4⟩
    · obtain ⟨g1, g2, g3⟩ := akd_1 h5
      exact ⟨g1, g2, h6, fun q => absurd rfl q, hk _ _ hp.1 hp.2 hg h4⟩
    · obtain ⟨g1, g2, g3⟩ := akd_3 h5
      refine ⟨g1, g2, h6, fun _ => ?_, hk _ _ hp.1 hp.2 hg h4⟩
      rcases g3 with g | g <;> rw [g] at h2 <;> exact h2
  · exact h.elim
theorem ssl_ok {k : List tV → Prop} {K : List tV → tM → Prop} (hk : ∀ s M, CI M → pE b M0 M → gE G M → k s → K s M) (hC : CI M) (hE : pE b M0 M) (hG : gE G M) (h : ssl b st k) : tsl st M K := by
  unfold ssl at h
  split at h
  · rename_i x i r rest
    obtain ⟨hb2, h0, h4⟩ := h
    obtain ⟨g1, g2, g3⟩ := akd_2 h0.2.1
    have hg : gE G (tU M r i x) := gE_arr (by rw [h0.2.1]; decide) hG
    have hp : CI (tU M r i x) ∧ pE b M0 (tU M r i x) := ⟨CI_put hC rfl (fun _ => by rcases g3 with g | g | g | g | g <;> rw [g] <;> exact trivial) (by omega), pE_tr hE (pE_put (prt_a hb2 h0 (by decide) (fun q => by omega)))⟩
    exact ⟨g1, h0.2.2, hk _ _ hp.1 hp.2 hg h4⟩
  · exact h.elim
set_option maxHeartbeats 4000000 in
theorem wSI_ok {hv : Bool} {o : bO} (hK : ∀ (L : tL) (x : Int) (r : List tV) (M : tM) (n : Nat), K L (.inl (w32 x) :: r) M n → K L (.inl x :: r) M n) (hk : ∀ G L st n M, CI M → pE b M0 M → gE G M → k G L st n → K L st M n) (hC : CI M) (hE : pE b M0 M) (hG : gE G M) (h : wSI hv e b M0 rk d mi pc o G L st n R k) : wI e true rk d mi pc o L st M n (sQ b M0 R) K := by
  have hkk : ∀ L st, k G L st n → K L st M n := fun L st q => hk G L st n M hC hE hG q
  obtain ⟨ins, j, a, f, v⟩ := o
  cases ins
  case iconst x => exact hkk _ _ h
  case bipush x => exact hkk _ _ h
  case sipush x => exact hkk _ _ h
  case ldc x => exact hkk _ _ h
  case lconst x => exact hkk _ _ h
  case ldc2_w x => exact hkk _ _ h
  case iload_n i => unfold wSI at h; unfold wI; simp only [] at h ⊢; generalize L[(i : Nat)]? = u at h ⊢; rcases u with _ | (_ | (x | x | x)) <;> first | exact h.elim | exact hkk _ _ h
  case iload i => unfold wSI at h; unfold wI; simp only [] at h ⊢; generalize L[i]? = u at h ⊢; rcases u with _ | (_ | (x | x | x)) <;> first | exact h.elim | exact hkk _ _ h
  case lload_n i => unfold wSI at h; unfold wI; simp only [] at h ⊢; generalize L[(i : Nat)]? = u at h ⊢; rcases u with _ | (_ | (x | x | x)) <;> first | exact h.elim | exact hkk _ _ h
  case lload i => unfold wSI at h; unfold wI; simp only [] at h ⊢; generalize L[i]? = u at h ⊢; rcases u with _ | (_ | (x | x | x)) <;> first | exact h.elim | exact hkk _ _ h
  case aload_n i => unfold wSI at h; unfold wI; simp only [] at h ⊢; generalize L[(i : Nat)]? = u at h ⊢; rcases u with _ | (_ | (x | x | x)) <;> first | exact h.elim | exact hkk _ _ h
  case aload i => unfold wSI at h; unfold wI; simp only [] at h ⊢; generalize L[i]? = u at h ⊢; rcases u with _ | (_ | (x | x | x)) <;> first | exact h.elim | exact hkk _ _ h
  case iinc i z => unfold wSI at h; unfold wI; simp only [] at h ⊢; generalize L[i]? = u at h ⊢; rcases u with _ | (_ | (x | x | x)) <;> first | exact h.elim | exact hkk _ _ h
  case istore_n i => rcases st with _ | ⟨(x | x | x | x), r⟩ <;> first | exact h.elim | exact hkk _ _ h
  case istore i => rcases st with _ | ⟨(x | x | x | x), r⟩ <;> first | exact h.elim | exact hkk _ _ h
  case lstore_n i => rcases st with _ | ⟨(x | x | x | x), r⟩ <;> first | exact h.elim | exact hkk _ _ h
  case lstore i => rcases st with _ | ⟨(x | x | x | x), r⟩ <;> first | exact h.elim | exact hkk _ _ h
  case astore_n i => rcases st with _ | ⟨(x | x | x | x), r⟩ <;> first | exact h.elim | exact hkk _ _ h
  case astore i => rcases st with _ | ⟨(x | x | x | x), r⟩ <;> first | exact h.elim | exact hkk _ _ h
  case ineg => rcases st with _ | ⟨(x | x | x | x), r⟩ <;> first | exact h.elim | exact hkk _ _ h
  case lneg => rcases st with _ | ⟨(x | x | x | x), r⟩ <;> first | exact h.elim | exact hkk _ _ (h _ (w64_LR _))
  case l2i => rcases st with _ | ⟨(x | x | x | x), r⟩ <;> first | exact h.elim | exact hkk _ _ (h _ (w32_IR _) (fun q => by unfold IR at q; unfold w32; omega))
  case i2l => rcases st with _ | ⟨(x | x | x | x), r⟩ <;> first | exact h.elim | exact ⟨h.1, hkk _ _ h.2⟩
  case i2c => rcases st with _ | ⟨(x | x | x | x), r⟩ <;> first | exact h.elim | exact hkk _ _ h
  case pop2 => rcases st with _ | ⟨(x | x | x | x), r⟩ <;> first | exact h.elim | exact hkk _ _ h
  case pop => rcases st with _ | ⟨(x | x | x | x), r⟩ <;> first | exact h.elim | exact hkk _ _ h
  case dup => rcases st with _ | ⟨(x | x | x | x), r⟩ <;> first | exact h.elim | exact hkk _ _ h
  case dup2 => rcases st with _ | ⟨(y | y | y | y), _ | ⟨(x | x | x | x), r⟩⟩ <;> first | exact h.elim | exact hkk _ _ h
  case iadd =>
    rcases st with _ | ⟨(y | y | y | y), _ | ⟨(x | x | x | x), r⟩⟩ <;> first | exact h.elim | skip
    cases hv
    · exact hkk _ _ h
    · refine hK _ _ _ _ _ (hkk _ _ (h _ (w32_IR _) (fun q => ?_)))
      unfold w32
      omega
  case isub =>
    rcases st with _ | ⟨(y | y | y | y), _ | ⟨(x | x | x | x), r⟩⟩ <;> first | exact h.elim | skip
    cases hv
    · exact hkk _ _ h
    · refine hK _ _ _ _ _ (hkk _ _ (h _ (w32_IR _) (fun q => ?_)))
      unfold w32
      omega
  case imul =>
    rcases st with _ | ⟨(y | y | y | y), _ | ⟨(x | x | x | x), r⟩⟩ <;> first | exact h.elim | skip
    cases hv
    · exact hkk _ _ h
    · refine hK _ _ _ _ _ (hkk _ _ (h _ (w32_IR _) (fun q => ?_)))
      unfold w32
      omega
  case ior => rcases st with _ | ⟨(y | y | y | y), _ | ⟨(x | x | x | x), r⟩⟩ <;> first | exact h.elim | exact ⟨h.1, hkk _ _ h.2⟩
  case iand => rcases st with _ | ⟨(y | y | y | y), _ | ⟨(x | x | x | x), r⟩⟩ <;> first | exact h.elim | exact Or.inl ⟨h.1, hkk _ _ h.2⟩
  case idiv =>
    rcases st with _ | ⟨(y | y | y | y), _ | ⟨(x | x | x | x), r⟩⟩ <;> first | exact h.elim | skip
    obtain ⟨⟨h1, h2, h3⟩, h4⟩ := h
    refine ⟨⟨by omega, h2, by omega, h3⟩, hkk _ _ (h4 _ ?_ ?_)⟩
    · have g4 : (x.tdiv y).natAbs ≤ x.natAbs := by
        rw [Int.natAbs_tdiv]
        exact Nat.div_le_self _ _
      by_cases hx : x = -2147483648
      · by_cases hy : y = 1
        · rw [hy, Int.tdiv_one]; exact h2
        · have g5 : (x.tdiv y).natAbs < x.natAbs := by
            rw [Int.natAbs_tdiv]
            exact Nat.div_lt_self (by omega) (by omega)
          omega
      · omega
    · intro hx
      have g4 : (x.tdiv y).natAbs ≤ x.natAbs := by
        rw [Int.natAbs_tdiv]
        exact Nat.div_le_self _ _
      have g5 := Int.tdiv_nonneg hx (show 0 ≤ y by omega)
      omega
  case irem =>
    rcases st with _ | ⟨(y | y | y | y), _ | ⟨(x | x | x | x), r⟩⟩ <;> first | exact h.elim | skip
    obtain ⟨⟨h1, h2, h3⟩, h4⟩ := h
    have g4 : (x.tmod y).natAbs < y.natAbs := by
      rw [Int.natAbs_tmod]
      exact Nat.mod_lt _ (by omega)
    have g2 : (x.tmod y).natAbs ≤ x.natAbs := by
      rw [Int.natAbs_tmod]
      exact Nat.mod_le _ _
    refine ⟨⟨by omega, h2, by omega, h3⟩, hkk _ _ (h4 _ ?_ ?_)⟩
    · omega
    · intro hx
      have g5 := Int.tmod_nonneg y hx
      omega
  case ladd => rcases st with _ | ⟨(y | y | y | y), _ | ⟨(x | x | x | x), r⟩⟩ <;> first | exact h.elim | exact hkk _ _ (h _ (w64_LR _))
  case lsub => rcases st with _ | ⟨(y | y | y | y), _ | ⟨(x | x | x | x), r⟩⟩ <;> first | exact h.elim | exact hkk _ _ (h _ (w64_LR _))
  case lmul => rcases st with _ | ⟨(y | y | y | y), _ | ⟨(x | x | x | x), r⟩⟩ <;> first | exact h.elim | exact hkk _ _ (h _ (w64_LR _))
  case ldiv =>
    rcases st with _ | ⟨(y | y | y | y), _ | ⟨(x | x | x | x), r⟩⟩ <;> first | exact h.elim | skip
    refine ⟨h.1, hkk _ _ (h.2 _ (w64_LR _) (fun q => ?_))⟩
    have h2 := h.1.2.1
    unfold LR at h2
    subst q
    have g4 : (x.tdiv 10000000000).natAbs = x.natAbs / 10000000000 := Int.natAbs_tdiv ..
    show -922337204 ≤ w64 (x.tdiv 10000000000) ∧ w64 (x.tdiv 10000000000) ≤ 922337204
    unfold w64
    omega
  case lrem =>
    rcases st with _ | ⟨(y | y | y | y), _ | ⟨(x | x | x | x), r⟩⟩ <;> first | exact h.elim | skip
    refine ⟨h.1, hkk _ _ (h.2 _ ?_)⟩
    obtain ⟨⟨h1, ⟨h2, h3⟩, h4, h5⟩, -⟩ := h
    have g1 := Int.emod_emod_of_dvd x (Int.dvd_refl y)
    have g2 : (x.tmod y).natAbs ≤ x.natAbs := by
      rw [Int.natAbs_tmod]
      exact Nat.mod_le _ _
    have g3 : -9223372036854775808 ≤ x.tmod y ∧ x.tmod y ≤ 9223372036854775808 := by omega
    refine ⟨g3.1, ?_⟩
    have g4 : (x.tmod y).natAbs < y.natAbs := by
      rw [Int.natAbs_tmod]
      exact Nat.mod_lt _ (by omega)
    omega
  case lxor =>
    rcases st with _ | ⟨(y | y | y | y), _ | ⟨(x | x | x | x), r⟩⟩ <;> first | exact h.elim | exact hkk _ _ (h _ ⟨Int64.le_toInt _, Int64.toInt_lt _⟩)
  case lshl => rcases st with _ | ⟨(y | y | y | y), _ | ⟨(x | x | x | x), r⟩⟩ <;> first | exact h.elim | exact ⟨h.1, hkk _ _ (h.2 _ (w64_LR _))⟩
  case lshr =>
    rcases st with _ | ⟨(y | y | y | y), _ | ⟨(x | x | x | x), r⟩⟩ <;> first | exact h.elim | skip
    refine ⟨h.1, hkk _ _ (h.2 _ ?_)⟩
    obtain ⟨⟨h1, h2⟩, -⟩ := h
    unfold LR at h2
    rw [h1]
    have e3 : (2 : Int) ^ (37 : Int).toNat = 137438953472 := by decide
    rw [e3]
    omega
  case lcmp => rcases st with _ | ⟨(y | y | y | y), _ | ⟨(x | x | x | x), r⟩⟩ <;> first | exact h.elim | exact ⟨h.1, hkk _ _ h.2⟩
  case goto z => exact h M hC hE hG
  case ifCond cd z => rcases st with _ | ⟨(x | x | x | x), r⟩ <;> first | exact h.elim | exact ⟨h.1, fun q => h.2.1 q M hC hE hG, fun q => hkk _ _ (h.2.2 q)⟩
  case if_icmp cd z => rcases st with _ | ⟨(y | y | y | y), _ | ⟨(x | x | x | x), r⟩⟩ <;> first | exact h.elim | exact ⟨h.1, fun q => h.2.1 q M hC hE hG, fun q => hkk _ _ (h.2.2 q)⟩
  case getfield z =>
    rcases st with _ | ⟨(x | x | r | x), t⟩ <;> first | exact h.elim | skip
    obtain ⟨h1, h2⟩ := h
    refine ⟨h1.1, ?_⟩
    obtain ⟨kd, lo, hi, hq⟩ : ∃ kd lo hi, fsf a f = (kd, lo, hi) := ⟨_, _, _, rfl⟩
    obtain ⟨s0, s1, s2, s4⟩ := gf_sound hC h1 hq
    simp only [hq] at h2
    match kd, h2, s0, s1, s2, s4 with
    | 0, h2, s0, _, _, _ =>
      obtain ⟨x, q1, q2, q3⟩ := s0 rfl
      have q4 : M r (f : Nat) = x := by
        have := gf_int hC h1 hq rfl
        rw [this] at q1
        cases q1
        rfl
      rw [q1]
      exact hk ((r, f, x) :: G) _ _ _ _ hC hE ⟨⟨by rw [h1.1]; exact akd_ob (fsf_of hq (show (0 : Nat) ≠ 9 by decide)).1, q4⟩, hG⟩ (h2 x q2 q3 (by rw [← q4]; exact gk_of hG))
    | 1, h2, _, s1, _, _ =>
      obtain ⟨x, q1, q2⟩ := s1 rfl
      rw [q1]
      exact hkk _ _ (h2 x q2)
    | 2, h2, _, _, s2, _ =>
      obtain ⟨x, q1, q2⟩ := s2 rfl
      rw [q1]
      exact hkk _ _ (h2 x q2)
    | 3, h2, _, _, _, _ => exact h2.elim
    | 4, h2, _, _, _, s4 =>
      obtain ⟨x, q1, q2, q3⟩ := s4 rfl
      rw [q1]
      exact hkk _ _ (h2 x q2 q3)
    | kk + 5, h2, _, _, _, _ => exact h2.elim
  case putfield z =>
    obtain ⟨kd, lo, hi, hq⟩ : ∃ kd lo hi, fsf a f = (kd, lo, hi) := ⟨_, _, _, rfl⟩
    rcases st with _ | ⟨(y | y | y | y), _ | ⟨(x | x | r | x), t⟩⟩ <;> first | exact h.elim | skip
    · obtain ⟨hb2, h1, ⟨h3, h4⟩, h2⟩ := h
      simp only [hq] at h2
      match kd, h2, hq with
      | 0, h2, hq =>
        have k5 : ¬ (a = 2 ∧ f = 5) := fun q => by rw [q.1, q.2] at hq; cases hq
        have g := pf_sound (x := y) hC hE h1 hq (by decide) hb2 h3 h4 (fun q1 q2 => k5 ⟨q1, q2⟩) ⟨fun _ => h2.1, fun q => absurd q (by decide)⟩
        obtain ⟨k1, k2⟩ := pf_kind hq (by decide)
        unfold gok at k1
        rw [k2] at k1
        have k1 : (Nat.beq (tfk a f) 0 || (Nat.beq (tfk a f) 3 && (decide (lo = 0) && decide (hi = 1)))) = true := k1
        rw [Bool.or_eq_true, Bool.and_eq_true, Bool.and_eq_true] at k1
        refine ⟨h1.1, ?_, hk ((r, f, y) :: gd f G) _ _ _ _ g.1 g.2 ⟨⟨by rw [h1.1]; exact akd_ob (fsf_of hq (show (0 : Nat) ≠ 9 by decide)).1, tU_eq ..⟩, gE_put hG⟩ h2.2⟩
        rcases k1 with k1 | ⟨k1, k3, k4⟩
        · rw [Nat.eq_of_beq_eq_true k1]; exact trivial
        · rw [Nat.eq_of_beq_eq_true k1]
          have := of_decide_eq_true k3
          have := of_decide_eq_true k4
          have := h2.1
          show 0 ≤ y ∧ y ≤ 1
          omega
      | kk + 1, h2, _ => exact h2.elim
    · obtain ⟨hb2, h1, h2⟩ := h
      simp only [hq] at h2
      match kd, h2, hq with
      | 0, h2, _ => exact h2.elim
      | 1, h2, hq =>
        obtain ⟨k1, k2⟩ := pf_kind hq (by decide)
        have k3 : ¬ (a = 13 ∧ f = 0) ∧ ¬ (a = 8 ∧ f = 7) := ⟨fun q => (by rw [q.1, q.2] at k2; cases k2), fun q => (by rw [q.1, q.2] at k2; cases k2)⟩
        have g := pf_sound (x := y) hC hE h1 hq (by decide) hb2 (fun q1 q2 => k3.1 ⟨q1, q2⟩) (fun q1 q2 => absurd ⟨q1, q2⟩ k3.2) (fun q1 _ => h2.1 q1) ⟨fun q => absurd q (by decide), fun q => absurd q (by decide)⟩
        unfold gok at k1
        rw [k2] at k1
        refine ⟨h1.1, ?_, hk _ _ _ _ _ g.1 g.2 (gE_put hG) h2.2⟩
        rw [Nat.eq_of_beq_eq_true k1]
        exact trivial
      | kk + 2, h2, _ => exact h2.elim
    · obtain ⟨hb2, h1, h2⟩ := h
      simp only [hq] at h2
      match kd, h2, hq with
      | 0, h2, _ => exact h2.elim
      | 1, h2, _ => exact h2.elim
      | 2, h2, hq =>
        obtain ⟨k1, k2⟩ := pf_kind hq (by decide)
        have k3 : ¬ (a = 13 ∧ f = 0) ∧ ¬ (a = 8 ∧ f = 7) := ⟨fun q => (by rw [q.1, q.2] at k2; cases k2), fun q => (by rw [q.1, q.2] at k2; cases k2)⟩
        have k5 : ¬ (a = 2 ∧ f = 5) := fun q => by rw [q.1, q.2] at hq; cases hq
        have g := pf_sound (x := (y : Nat)) hC hE h1 hq (by decide) hb2 (fun q1 q2 => k3.1 ⟨q1, q2⟩) (fun q1 q2 => absurd ⟨q1, q2⟩ k3.2) (fun q1 q2 => k5 ⟨q1, q2⟩) ⟨fun q => absurd q (by decide), fun _ => by rw [Int.toNat_natCast]; exact h2.1⟩
        unfold gok at k1
        rw [k2] at k1
        have k1 : (Nat.beq (tfk a f) 2 && !tcn a f) = true := k1
        rw [Bool.and_eq_true] at k1
        refine ⟨h1.1, ?_, hk _ _ _ _ _ g.1 g.2 (gE_put hG) h2.2⟩
        rw [Nat.eq_of_beq_eq_true k1.1]
        exact trivial
      | kk + 3, h2, _ => exact h2.elim
  case iaload => exact sld_ok (k := fun s => k G L s n) (K := fun s => K L s M n) (Or.inr (Or.inl rfl)) (fun s q => hkk _ _ q) hC h
  case caload => exact sld_ok (k := fun s => k G L s n) (K := fun s => K L s M n) (Or.inl rfl) (fun s q => hkk _ _ q) hC h
  case baload => exact sld_ok (k := fun s => k G L s n) (K := fun s => K L s M n) (Or.inr (Or.inr (Or.inr rfl))) (fun s q => hkk _ _ q) hC h
  case laload => exact sld_ok (k := fun s => k G L s n) (K := fun s => K L s M n) (Or.inr (Or.inr (Or.inl rfl))) (fun s q => hkk _ _ q) hC h
  case iastore => exact ssi_ok (k := fun s => k G L s n) (K := fun s M => K L s M n) (Or.inr (Or.inl rfl)) (fun s M q1 q2 q3 q4 => hk _ _ _ _ _ q1 q2 q3 q4) hC hE hG h
  case castore => exact ssi_ok (k := fun s => k G L s n) (K := fun s M => K L s M n) (Or.inl rfl) (fun s M q1 q2 q3 q4 => hk _ _ _ _ _ q1 q2 q3 q4) hC hE hG h
  case bastore => exact ssi_ok (k := fun s => k G L s n) (K := fun s M => K L s M n) (Or.inr (Or.inr rfl)) (fun s M q1 q2 q3 q4 => hk _ _ _ _ _ q1 q2 q3 q4) hC hE hG h
  case lastore => exact ssl_ok (k := fun s => k G L s n) (K := fun s M => K L s M n) (fun s M q1 q2 q3 q4 => hk _ _ _ _ _ q1 q2 q3 q4) hC hE hG h
  case aaload =>
    rcases st with _ | ⟨(i | y | y | y), _ | ⟨(x | x | r | x), t⟩⟩ <;> first | exact h.elim | skip
    rcases h with ⟨h1, h2⟩ | ⟨h1, h2⟩
    · obtain ⟨g1, g2⟩ := akd_4 h1.2.1
      refine ⟨g1, h1.2.2, ?_⟩
      have : tel (tyk (tsh r)).2.1 r i (M r i) = r + tqo r + 3 * i.toNat := by rw [g2]; rfl
      rw [this]
      exact hkk _ _ (h2 _ (cq_of h1))
    · have g := akd_5 h1.2.1
      refine ⟨by rw [g]; rfl, h1.2.2, ?_⟩
      have h3 := hC.1 r i h1.1 h1.2.2.1
      have h4 := h1.2.2
      rw [g] at h3 h4 ⊢
      refine hkk _ _ (h2 _ ?_)
      have e4 : i.toNat = 0 ∨ i.toNat = 1 ∨ i.toNat = 2 ∨ i.toNat = 3 := by
        have : i < 4 := h4.2
        omega
      rcases e4 with e4 | e4 | e4 | e4 <;> rw [e4] at h3 <;> exact h3
  case aastore =>
    rcases st with _ | ⟨(y | y | y | y), _ | ⟨(i | i | i | i), _ | ⟨(x | x | r | x), t⟩⟩⟩ <;> first | exact h.elim | skip
    obtain ⟨hb2, h1, h2, h3, h4⟩ := h
    refine ⟨h1.1, h2.1, h3, hk _ _ _ _ _ (CI_put hC h1.1 (fun _ => ?_)) (pE_tr hE (pE_put (fun q => ?_))) (gE_arr (by rw [h1.1]; decide) hG) h4⟩
    · have e4 : i.toNat = 0 ∨ i.toNat = 1 ∨ i.toNat = 2 ∨ i.toNat = 3 := by omega
      rcases e4 with e4 | e4 | e4 | e4 <;> rw [e4] <;> (show cl (((y : Nat) : Int).toNat) 7; rw [Int.toNat_natCast]; exact h2)
    · obtain ⟨hr, hl⟩ := h1
      rcases q with (q | ⟨q, q2⟩ | ⟨q, q2 | ⟨q2, q3⟩⟩) | q | q
      · omega
      · subst q
        rw [tsh_0] at hr
        cases hr
      · omega
      · omega
      · omega
      · omega
  case arraylength =>
    rcases st with _ | ⟨(x | x | x | x), t⟩ <;> first | exact h.elim | skip
    obtain ⟨h1, h2⟩ := h
    rcases h1 with rfl | rfl
    · exact ⟨by decide, hkk _ _ h2⟩
    · exact ⟨by decide, hkk _ _ h2⟩
  case getstatic z => exact hkk _ _ h
  case new z => exact ⟨h.1, h.2.1, ⟨hC, hE⟩, h.2.2 M hC hE hG⟩
  case lookupswitch df ps => rcases st with _ | ⟨(x | x | x | x), r⟩ <;> first | exact h.elim | exact ⟨h.1, tsw_mono (fun q g => g M hC hE hG) _ h.2⟩
  case ireturn => rcases st with _ | ⟨(x | x | x | x), _ | ⟨y, r⟩⟩ <;> first | exact h.elim | exact ⟨h.1, ⟨hC, hE⟩, h.2 M hC hE hG⟩
  case lreturn => rcases st with _ | ⟨(x | x | x | x), _ | ⟨y, r⟩⟩ <;> first | exact h.elim | exact ⟨h.1, ⟨hC, hE⟩, h.2 M hC hE hG⟩
  case areturn => rcases st with _ | ⟨(x | x | x | x), _ | ⟨y, r⟩⟩ <;> first | exact h.elim | exact ⟨h.1, ⟨hC, hE⟩, h.2 M hC hE hG⟩
  case return_ => rcases st with _ | ⟨y, r⟩ <;> first | exact h.elim | exact ⟨h.1, ⟨hC, hE⟩, h.2 M hC hE hG⟩
  case invokestatic z => exact ⟨h.1, h.2.1, scall_ok hk hC hE hG h.2.2⟩
  case invokevirtual z =>
    unfold wSI at h
    unfold wI
    simp only [] at h ⊢
    generalize st.drop f = u at h ⊢
    rcases u with _ | ⟨(x | x | x | x), r⟩ <;> first | exact h.elim | exact ⟨h.1, h.2.1, scall_ok hk hC hE hG h.2.2⟩
  all_goals exact h.elim
theorem tT_w {e : tE} {d mi pc : Nat} {L : tL} {x : Int} {r : List tV} {M : tM} {n : Nat} {Q : tR → tM → Nat → Prop} (h : tT e d mi pc L (.inl (w32 x) :: r) M n Q) : tT e d mi pc L (.inl x :: r) M n Q := by
  intro hscr
  obtain ⟨v, M2, n2, h1, h2⟩ := h hscr
  refine ⟨v, M2, n2, h1, fun lv hl => ?_⟩
  have g := h2 lv hl
  have e1 : ((Sum.inl (w32 x) : tV) :: r).map tdn = ((Sum.inl x : tV) :: r).map tdn := by
    rw [List.map_cons, List.map_cons]
    show Sum.inl (Int32.ofInt (w32 x)) :: _ = Sum.inl (Int32.ofInt x) :: _
    rw [ofI_w]
  rw [e1] at g
  exact g
theorem wS_ok {hv : Bool} {pe : Nat} (ops : List (Nat × bO)) (hm : ∀ p ∈ ops, bop mi p.1 = some p.2) : ∀ {pc : Nat} {G : GL} {L : tL} {st : List tV} {M : tM} {n : Nat}, bchn rk mi pe pc ops = true → CI M → pE b M0 M → gE G M → wS hv e b M0 rk d mi pe ops G L st n R → tT e d mi pc L st M n (sQ b M0 R) := by
  induction ops with
  | nil =>
    intro pc G L st M n h hC hE hG hw
    have : pc = pe := Nat.eq_of_beq_eq_true h
    subst this
    exact hw M hC hE hG
  | cons p t ih =>
    intro pc G L st M n h hC hE hG hw
    obtain ⟨q, o⟩ := p
    unfold bchn at h
    rw [Bool.and_eq_true, Bool.and_eq_true] at h
    obtain ⟨h1, h2, h3⟩ := h
    have : pc = q := Nat.eq_of_beq_eq_true h1
    subst this
    have ho : bop mi pc = some o := hm _ List.mem_cons_self
    have hkk : bchn rk mi pe (pc + tlen o.1) t = true → tT e d mi pc L st M n (sQ b M0 R) := fun h4 => wI_ok (k := fun L' st' M' n' => tT e d mi (pc + tlen o.1) L' st' M' n' (sQ b M0 R)) ho h2 (wSI_ok (K := fun L' st' M' n' => tT e d mi (pc + tlen o.1) L' st' M' n' (sQ b M0 R)) (fun L x r M n q => tT_w q) (fun G L st n M hC hE hG q => ih (fun p hp => hm p (List.mem_cons_of_mem _ hp)) h4 hC hE hG q) hC hE hG hw) (fun L' st' M' n' q => q)
    cases t with
    | cons p2 t2 =>
      have h4 : bchn rk mi pe (pc + tlen o.1) (p2 :: t2) = true := by
        split at h3 <;> exact h3
      exact hkk h4
    | nil =>
      have last : ∀ k : GL → tL → List tV → Nat → Prop, (∀ G L st n, k G L st n → False) → wSI hv e b M0 rk d mi pc o G L st n R k → tT e d mi pc L st M n (sQ b M0 R) := fun k hk0 hw => wI_ok (k := fun _ _ _ _ => False) ho h2 (wSI_ok (K := fun _ _ _ _ => False) (fun _ _ _ _ _ q => q) (fun G L st n M hC hE hG q => hk0 G L st n q) hC hE hG hw) (fun _ _ _ _ q => q.elim)
      split at h3
      all_goals first
        | exact hkk h3
        | skip
      all_goals (rename_i he; obtain ⟨ins, j, a, f, v⟩ := o; have he : ins = _ := he; subst he)
      · exact last (fun _ _ _ _ => False) (fun _ _ _ _ q => q) hw
      · exact last (fun _ _ _ _ => False) (fun _ _ _ _ q => q) hw
      · exact last (fun _ _ _ _ => False) (fun _ _ _ _ q => q) hw
      · exact last (fun _ _ _ _ => False) (fun _ _ _ _ q => q) hw
      · exact last (fun _ _ _ _ => False) (fun _ _ _ _ q => q) hw
      · exact last (fun _ _ _ _ => False) (fun _ _ _ _ q => q) hw
      · exact last (fun _ _ _ _ => False) (fun _ _ _ _ q => q) hw
      · exact last (fun _ _ _ _ => False) (fun _ _ _ _ q => q) hw
theorem sblk {hv : Bool} {pe pc i : Nat} {Bs : List (List (Nat × bO))} {B : List (Nat × bO)} (hl : tcode mi = Bs.flatten) (hs : ksort (tcode mi) = true) (hi : Bs[i]? = some B) (hc : bchn rk mi pe pc B = true) (h : wS hv e b M0 rk d mi pe B G L st n R) : sT e b M0 d mi pc G L st n R := by
  refine fun M hC hE hG => wS_ok B (fun p hp => ?_) hc hC hE hG h
  refine bfind_of (l := tcode mi) hs (x := p.2) ?_
  rw [hl]
  exact List.mem_flatten.mpr ⟨B, List.mem_of_getElem? hi, hp⟩
end SOUND
