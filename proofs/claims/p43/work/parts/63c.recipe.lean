/-! THE MACHINE on recipes: recipeOf. -/
section REC
theorem recJ_in (c x : Int32) : 4 ≤ recJ c x ∧ recJ c x < 16 := by
  unfold recJ
  repeat' split
  all_goals decide
theorem rec_snd {l : Launch} {K : KE} {scr : List Int32} (_ : bAll K (bPr scr)) {d : Nat} {ch x : Int32} {w : bW} {lv : List (Nat × bV)} (h0 : blk lv 0 = some (.inl ch)) (h1 : blk lv 1 = some (.inl x)) : bSnd l K (bPr scr) (d + 4) 2062 0 lv [] w (.inl (some (.inr (.inr (.inr (some (recJ ch x))))))) w := by
  refine ⟨Nat.le_refl _, Nat.le_refl _, Nat.le_refl _, ⟨_, (show bop 2062 0 = some (.iload_n 0, 0, 0, 0, 0) by decide +kernel)⟩, ?_⟩
  intro p e R s m args below meth c H locs cells slots ls w0 mc ms C0 hb hw hz hret hnm hlk htab hRf hRl hRc hRs hc hsl hmc hms hl
  have e1 : mc = cells := by omega
  have e2 : ms = slots := by omega
  subst e1
  subst e2
  have C0 : CallFix p m c cX6_recipeOf 2 s args bw_G RX6 := C0
  have hl : lv_has ls 2 (bvl K lv) := hl
  have l0 : ls[0]? = some (.val (.int ch)) := blk_has hl h0
  have l1 : ls[1]? = some (.val (.int x)) := blk_has hl h1
  have hx := C0.1
  have hcb := C0.2.1
  have rs := hb.2.2.2.2.1.2.2.2
  have fin : ∀ t : State, t.heap = H → bTop K w t ∧ va_F (bA K.B) s t := fun t ht => ⟨⟨by rw [ht]; exact hw.1, fun h => by rw [ht]; exact hz h⟩, hw.2.F ht⟩
  have re : ∀ (pc : Nat), decode cX6_recipeOf pc = .ok (.areturn, 1) → W p l e R s m args below meth c H locs mc ms (vx_MQ below (bQc K (.inl (some (.inr (.inr (.inr (some (recJ ch x))))))) w) (bXC K (.inl (some (.inr (.inr (.inr (some (recJ ch x))))))) w) args s mc ms (bA K.B)) (F0 m pc ls [.ref (K.X (recJ ch x))]) := fun pc hd =>
    vx_ret (W.aret (v := .ref (K.X (recJ ch x))) hx hcb hret (Or.inl ⟨_, rfl⟩) (Or.inr ⟨_, rfl⟩) (fun t ht hW => ⟨⟨some (.inr (.inr (.inr (some (recJ ch x))))), rfl, rfl⟩, fin t ht⟩) hw.2.2.2 hd)
  have ld : ∀ (pc ix : Nat) (tx : String) (bs : List Int32), (recJ ch x, ix, tx, bs) ∈ brec → decode cX6_recipeOf pc = .ok (.ldc ix, 2) → W p l e R s m args below meth c H locs mc ms (vx_MQ below (bQc K (.inl (some (.inr (.inr (.inr (some (recJ ch x))))))) w) (bXC K (.inl (some (.inr (.inr (.inr (some (recJ ch x))))))) w) args s mc ms (bA K.B)) (F0 m (pc + 2) ls [.ref (K.X (recJ ch x))]) → W p l e R s m args below meth c H locs mc ms (vx_MQ below (bQc K (.inl (some (.inr (.inr (.inr (some (recJ ch x))))))) w) (bXC K (.inl (some (.inr (.inr (.inr (some (recJ ch x))))))) w) args s mc ms (bA K.B)) (F0 m pc ls []) := fun pc ix tx bs hq hd k =>
    va_ldcS (own := RX6) hx hcb C0.2.2.2.1 (rs _ hq).1 hd k
  show W p l e R s m args below meth c H locs mc ms _ (F0 m 0 ls [])
  refine lv_iload_n hx hcb (k := 0) (i := 0) (x := ch) (by decide +kernel) rfl l0 ?_
  by_cases c42 : ch = 42
  · refine lv_lookup hx hcb (dflt := 141) (ps := #[(42, 108), (43, 102), (45, 105), (47, 111), (94, 114), (97, 138), (101, 132), (108, 135), (114, 129), (120, 99), (126, 126)]) (len := 99) (off := 108) (tgt := 109) (by decide +kernel) (by decide +kernel) (by rw [c42]; decide +kernel) (by decide) ?_
    have ej : recJ ch x = 7 := by
      rw [c42]
      unfold recJ
      rw [if_pos rfl]
    exact ld 109 175 "Uv*uV*+" [85, 118, 42, 117, 86, 42, 43] (by rw [ej]; decide +kernel) (by decide +kernel) (re 111 (by decide +kernel))
  by_cases c43 : ch = 43
  · refine lv_lookup hx hcb (dflt := 141) (ps := #[(42, 108), (43, 102), (45, 105), (47, 111), (94, 114), (97, 138), (101, 132), (108, 135), (114, 129), (120, 99), (126, 126)]) (len := 99) (off := 102) (tgt := 103) (by decide +kernel) (by decide +kernel) (by rw [c43]; decide +kernel) (by decide) ?_
    have ej : recJ ch x = 5 := by
      rw [c43]
      unfold recJ
      rw [if_neg (by decide), if_pos rfl]
    exact ld 103 171 "UV+" [85, 86, 43] (by rw [ej]; decide +kernel) (by decide +kernel) (re 105 (by decide +kernel))
  by_cases c45 : ch = 45
  · refine lv_lookup hx hcb (dflt := 141) (ps := #[(42, 108), (43, 102), (45, 105), (47, 111), (94, 114), (97, 138), (101, 132), (108, 135), (114, 129), (120, 99), (126, 126)]) (len := 99) (off := 105) (tgt := 106) (by decide +kernel) (by decide +kernel) (by rw [c45]; decide +kernel) (by decide) ?_
    have ej : recJ ch x = 6 := by
      rw [c45]
      unfold recJ
      rw [if_neg (by decide), if_neg (by decide), if_pos rfl]
    exact ld 106 173 "UV-" [85, 86, 45] (by rw [ej]; decide +kernel) (by decide +kernel) (re 108 (by decide +kernel))
  by_cases c47 : ch = 47
  · refine lv_lookup hx hcb (dflt := 141) (ps := #[(42, 108), (43, 102), (45, 105), (47, 111), (94, 114), (97, 138), (101, 132), (108, 135), (114, 129), (120, 99), (126, 126)]) (len := 99) (off := 111) (tgt := 112) (by decide +kernel) (by decide +kernel) (by rw [c47]; decide +kernel) (by decide) ?_
    have ej : recJ ch x = 8 := by
      rw [c47]
      unfold recJ
      rw [if_neg (by decide), if_neg (by decide), if_neg (by decide), if_pos rfl]
    exact ld 112 177 "Uuv/V*-v/" [85, 117, 118, 47, 86, 42, 45, 118, 47] (by rw [ej]; decide +kernel) (by decide +kernel) (re 114 (by decide +kernel))
  by_cases c94 : ch = 94
  · refine lv_lookup hx hcb (dflt := 141) (ps := #[(42, 108), (43, 102), (45, 105), (47, 111), (94, 114), (97, 138), (101, 132), (108, 135), (114, 129), (120, 99), (126, 126)]) (len := 99) (off := 114) (tgt := 115) (by decide +kernel) (by decide +kernel) (by rw [c94]; decide +kernel) (by decide) ?_
    refine lv_iload_n hx hcb (k := 1) (i := 1) (x := x) (by decide +kernel) rfl l1 ?_
    refine lv_if_ne hx hcb (off := 8) (tgt := 124) (by decide +kernel) (by decide) (fun hn => ?_) (fun hn => ?_)
    · have ej : recJ ch x = 10 := by
        rw [c94]
        unfold recJ
        rw [if_neg (by decide), if_neg (by decide), if_neg (by decide), if_neg (by decide), if_pos rfl, if_neg hn]
      exact ld 124 181 "nu^*U*" [110, 117, 94, 42, 85, 42] (by rw [ej]; decide +kernel) (by decide +kernel) (re 126 (by decide +kernel))
    · have ej : recJ ch x = 9 := by
        rw [c94]
        unfold recJ
        rw [if_neg (by decide), if_neg (by decide), if_neg (by decide), if_neg (by decide), if_pos rfl, if_pos hn]
      refine ld 119 179 "0" [48] (by rw [ej]; decide +kernel) (by decide +kernel) ?_
      exact lv_goto hx hcb (off := 5) (tgt := 126) (by decide +kernel) (by decide) (re 126 (by decide +kernel))
  by_cases c97 : ch = 97
  · refine lv_lookup hx hcb (dflt := 141) (ps := #[(42, 108), (43, 102), (45, 105), (47, 111), (94, 114), (97, 138), (101, 132), (108, 135), (114, 129), (120, 99), (126, 126)]) (len := 99) (off := 138) (tgt := 139) (by decide +kernel) (by decide +kernel) (by rw [c97]; decide +kernel) (by decide) ?_
    have ej : recJ ch x = 15 := by
      rw [c97]
      unfold recJ
      rw [if_neg (by decide), if_neg (by decide), if_neg (by decide), if_neg (by decide), if_neg (by decide), if_pos rfl]
    exact ld 139 191 "U1uq+/" [85, 49, 117, 113, 43, 47] (by rw [ej]; decide +kernel) (by decide +kernel) (re 141 (by decide +kernel))
  by_cases c101 : ch = 101
  · refine lv_lookup hx hcb (dflt := 141) (ps := #[(42, 108), (43, 102), (45, 105), (47, 111), (94, 114), (97, 138), (101, 132), (108, 135), (114, 129), (120, 99), (126, 126)]) (len := 99) (off := 132) (tgt := 133) (by decide +kernel) (by decide +kernel) (by rw [c101]; decide +kernel) (by decide) ?_
    have ej : recJ ch x = 13 := by
      rw [c101]
      unfold recJ
      rw [if_neg (by decide), if_neg (by decide), if_neg (by decide), if_neg (by decide), if_neg (by decide), if_neg (by decide), if_pos rfl]
    exact ld 133 187 "ueU*" [117, 101, 85, 42] (by rw [ej]; decide +kernel) (by decide +kernel) (re 135 (by decide +kernel))
  by_cases c108 : ch = 108
  · refine lv_lookup hx hcb (dflt := 141) (ps := #[(42, 108), (43, 102), (45, 105), (47, 111), (94, 114), (97, 138), (101, 132), (108, 135), (114, 129), (120, 99), (126, 126)]) (len := 99) (off := 135) (tgt := 136) (by decide +kernel) (by decide +kernel) (by rw [c108]; decide +kernel) (by decide) ?_
    have ej : recJ ch x = 14 := by
      rw [c108]
      unfold recJ
      rw [if_neg (by decide), if_neg (by decide), if_neg (by decide), if_neg (by decide), if_neg (by decide), if_neg (by decide), if_neg (by decide), if_pos rfl]
    exact ld 136 189 "Uu/" [85, 117, 47] (by rw [ej]; decide +kernel) (by decide +kernel) (re 138 (by decide +kernel))
  by_cases c114 : ch = 114
  · refine lv_lookup hx hcb (dflt := 141) (ps := #[(42, 108), (43, 102), (45, 105), (47, 111), (94, 114), (97, 138), (101, 132), (108, 135), (114, 129), (120, 99), (126, 126)]) (len := 99) (off := 129) (tgt := 130) (by decide +kernel) (by decide +kernel) (by rw [c114]; decide +kernel) (by decide) ?_
    have ej : recJ ch x = 12 := by
      rw [c114]
      unfold recJ
      rw [if_neg (by decide), if_neg (by decide), if_neg (by decide), if_neg (by decide), if_neg (by decide), if_neg (by decide), if_neg (by decide), if_neg (by decide), if_pos rfl]
    exact ld 130 185 "U2ur*/" [85, 50, 117, 114, 42, 47] (by rw [ej]; decide +kernel) (by decide +kernel) (re 132 (by decide +kernel))
  by_cases c120 : ch = 120
  · refine lv_lookup hx hcb (dflt := 141) (ps := #[(42, 108), (43, 102), (45, 105), (47, 111), (94, 114), (97, 138), (101, 132), (108, 135), (114, 129), (120, 99), (126, 126)]) (len := 99) (off := 99) (tgt := 100) (by decide +kernel) (by decide +kernel) (by rw [c120]; decide +kernel) (by decide) ?_
    have ej : recJ ch x = 4 := by
      rw [c120]
      unfold recJ
      rw [if_neg (by decide), if_neg (by decide), if_neg (by decide), if_neg (by decide), if_neg (by decide), if_neg (by decide), if_neg (by decide), if_neg (by decide), if_neg (by decide), if_pos rfl]
    exact ld 100 169 "1" [49] (by rw [ej]; decide +kernel) (by decide +kernel) (re 102 (by decide +kernel))
  by_cases c126 : ch = 126
  · refine lv_lookup hx hcb (dflt := 141) (ps := #[(42, 108), (43, 102), (45, 105), (47, 111), (94, 114), (97, 138), (101, 132), (108, 135), (114, 129), (120, 99), (126, 126)]) (len := 99) (off := 126) (tgt := 127) (by decide +kernel) (by decide +kernel) (by rw [c126]; decide +kernel) (by decide) ?_
    have ej : recJ ch x = 11 := by
      rw [c126]
      unfold recJ
      rw [if_neg (by decide), if_neg (by decide), if_neg (by decide), if_neg (by decide), if_neg (by decide), if_neg (by decide), if_neg (by decide), if_neg (by decide), if_neg (by decide), if_neg (by decide), if_pos rfl]
    exact ld 127 183 "U~" [85, 126] (by rw [ej]; decide +kernel) (by decide +kernel) (re 129 (by decide +kernel))
  have ej : recJ ch x = 9 := by
    unfold recJ
    rw [if_neg c42, if_neg c43, if_neg c45, if_neg c47, if_neg c94, if_neg c97, if_neg c101, if_neg c108, if_neg c114, if_neg c120, if_neg c126]
  refine lv_lookup hx hcb (dflt := 141) (ps := #[(42, 108), (43, 102), (45, 105), (47, 111), (94, 114), (97, 138), (101, 132), (108, 135), (114, 129), (120, 99), (126, 126)]) (len := 99) (off := 141) (tgt := 142) (by decide +kernel) (by decide +kernel) (by
    show Op.lookupswitch.offset [(42, 108), (43, 102), (45, 105), (47, 111), (94, 114), (97, 138), (101, 132), (108, 135), (114, 129), (120, 99), (126, 126)] 141 ch.toInt = 141
    rw [lv_osw c42 (by decide), lv_osw c43 (by decide), lv_osw c45 (by decide), lv_osw c47 (by decide), lv_osw c94 (by decide), lv_osw c97 (by decide), lv_osw c101 (by decide), lv_osw c108 (by decide), lv_osw c114 (by decide), lv_osw c120 (by decide), lv_osw c126 (by decide)]
    rfl) (by decide) ?_
  exact ld 142 179 "0" [48] (by rw [ej]; decide +kernel) (by decide +kernel) (re 144 (by decide +kernel))
end REC
