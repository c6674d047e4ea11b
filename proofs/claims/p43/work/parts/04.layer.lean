/-! THE WORLD: cells in a row from the address B on; ct says what each holds (refs are B + k). Every contract passes the whole world through. -/
def bA (B : Nat) : Nat → Prop := fun q => B ≤ q
def bw_up (ct : Nat → va_E) (r : Nat) (v : va_E) : Nat → va_E := fun k => if k = r then v else ct k
theorem bw_eq (ct : Nat → va_E) (r : Nat) (v : va_E) : bw_up ct r v r = v := by simp [bw_up]
theorem bw_ne {ct : Nat → va_E} {r k : Nat} {v : va_E} (h : k ≠ r) : bw_up ct r v k = ct k := by simp [bw_up, h]
theorem bw_id {ct : Nat → va_E} {r : Nat} {v : va_E} (h : ct r = v) : bw_up ct r v = ct := by
  funext k
  by_cases hk : k = r
  · subst hk; rw [bw_eq, h]
  · rw [bw_ne hk]
theorem bw_tw (ct : Nat → va_E) (r : Nat) (v w : va_E) : bw_up (bw_up ct r v) r w = bw_up ct r w := by
  funext k
  by_cases hk : k = r
  · subst hk; rw [bw_eq, bw_eq]
  · rw [bw_ne hk, bw_ne hk, bw_ne hk]
abbrev b_tys (cy : Nat → ClassId) : List (ClassId × FieldType) := [(cy 0, .char), (cy 1, .int), (cy 2, .long), (cy 3, .boolean), (cy 4, .object "Boxedvalue$Box"), (cy 5, .object "Boxedvalue$Formula")]
def bw (D : va_G) (B n : Nat) (ct : Nat → va_E) (H : Heap) : Prop := B + n ≤ H.size ∧ ∀ k : Nat, k < n → va_at D vwCl (B + k, ct k) H
def bS (D : va_G) (B n : Nat) (ct : Nat → va_E) (s : State) (H : Heap) (locs : List Loc) : Prop := bw D B n ct H ∧ va_S (bA B) s.heap H locs
theorem bw.kept {D : va_G} {B n : Nat} {ct : Nat → va_E} {H H1 : Heap} (h : bw D B n ct H) (hz : H.size ≤ H1.size) (hq : ∀ q : Nat, q < H.size → H1[q]? = H[q]?) : bw D B n ct H1 :=
  ⟨Nat.le_trans h.1 hz, fun k hk => va_at.kept (h.2 k hk) (hq _ (by have := h.1; show B + k < _; omega))⟩
theorem bw.sing {D : va_G} {B n : Nat} {ct : Nat → va_E} {H : Heap} (h : bw D B n ct H) {r : Nat} (hr : r < n) {x : va_E} (he : ct r = x) : va_P D vwCl [(B + r, x)] H := by
  intro k q hk
  have hz : k < 1 := (List.getElem?_eq_some_iff.mp hk).1
  rw [show k = 0 by omega] at hk
  cases hk
  rw [← he]
  exact h.2 r hr
/-- one cell anew, the others as they were -/
theorem bw.upd {D : va_G} {B n : Nat} {ct : Nat → va_E} {H H1 : Heap} (h : bw D B n ct H) {r : Nat} (v : va_E) (h1 : va_at D vwCl (B + r, v) H1) (hz : H1.size = H.size) (hq : ∀ q : Nat, q ≠ B + r → H1[q]? = H[q]?) : bw D B n (bw_up ct r v) H1 := by
  refine ⟨by rw [hz]; exact h.1, fun k hk => ?_⟩
  by_cases hkr : k = r
  · subst hkr; rw [bw_eq]; exact h1
  · rw [bw_ne hkr]
    exact va_at.kept (h.2 k hk) (hq _ (by show B + k ≠ B + r; omega))
/-- a cell more -/
theorem bw.push {D : va_G} {B n : Nat} {ct : Nat → va_E} {H H1 : Heap} (h : bw D B n ct H) (hz0 : H.size = B + n) (v : va_E) (h1 : va_at D vwCl (B + n, v) H1) (hz : H1.size = H.size + 1) (hq : ∀ q : Nat, q < H.size → H1[q]? = H[q]?) : bw D B (n + 1) (bw_up ct n v) H1 := by
  refine ⟨by omega, fun k hk => ?_⟩
  by_cases hkr : k = n
  · subst hkr; rw [bw_eq]; exact h1
  · rw [bw_ne hkr]
    exact va_at.kept (h.2 k (by omega)) (hq _ (by show B + k < _; omega))
theorem bS.put {D : va_G} {B n : Nat} {ct : Nat → va_E} {s : State} {H H1 : Heap} {locs : List Loc} (h : bS D B n ct s H locs) {r i : Nat} (v : va_E) (h1 : va_at D vwCl (B + r, v) H1) (hz : H1.size = H.size) (hq : ∀ q : Nat, q ≠ B + r → H1[q]? = H[q]?) : bS D B n (bw_up ct r v) s H1 (locs ++ [⟨B + r, i⟩]) :=
  ⟨h.1.upd v h1 hz hq, h.2.put hz hq (show bA B (B + r) from Nat.le_add_right _ _)⟩
/-- what holds outside the world's cells, of the machine: the classes, the static arrays and the script (X j, their fields), strings of messages, casts that fail -/
abbrev KE : Type := va_G × (Nat → ClassId) × Nat × (Nat → Nat) × List (FieldType × Nat × (Nat → Value) × Option (String × String × String)) × List (String × Nat × String) × List (String × String)
abbrev KE.D (K : KE) : va_G := K.1
abbrev KE.cy (K : KE) : Nat → ClassId := K.2.1
abbrev KE.B (K : KE) : Nat := K.2.2.1
abbrev KE.X (K : KE) : Nat → Nat := K.2.2.2.1
abbrev KE.arr (K : KE) : List (FieldType × Nat × (Nat → Value) × Option (String × String × String)) := K.2.2.2.2.1
abbrev KE.str (K : KE) : List (String × Nat × String) := K.2.2.2.2.2.1
abbrev KE.nc (K : KE) : List (String × String) := K.2.2.2.2.2.2
/-- classes of which the machine is told that a cast to themselves holds -/
def bwC : List String := ["java/lang/IllegalArgumentException", "java/lang/IllegalStateException", "java/lang/IndexOutOfBoundsException", "java/util/NoSuchElementException", "java/lang/ArithmeticException", "java/lang/UnsupportedOperationException"]
/-- words that hold but don't keep: what the exceptions' constructors declare, the links to a nest mate's static field -/
def bwD : List MethodName := [Bundle.initS "java/lang/RuntimeException", Bundle.initS "java/lang/Exception", Bundle.initS Bundle.tN]
def bwN : List (String × Nat × String × String × String × String) := [("Boxedvalue$Text", 45, "Boxedvalue", "TENS", "[J", "Boxedvalue"), ("Boxedvalue$Reckoner", 84, "Boxedvalue", "TENS", "[J", "Boxedvalue")]
def bwM : List (String × Nat × MethodName × String) := [("Boxedvalue$Acts", 44, ⟨"Boxedvalue", "unitOf", "(I)J"⟩, "Boxedvalue"), ("Boxedvalue$Machine", 70, ⟨"Boxedvalue$Formula", "isPair", "(C)Z"⟩, "Boxedvalue")]
/-- the recipes' texts: where they stand (X j), their entries, their bytes -/
def brec : List (Nat × Nat × String × List Int32) := [(4, 169, "1", [49]), (5, 171, "UV+", [85, 86, 43]), (6, 173, "UV-", [85, 86, 45]), (7, 175, "Uv*uV*+", [85, 118, 42, 117, 86, 42, 43]), (8, 177, "Uuv/V*-v/", [85, 117, 118, 47, 86, 42, 45, 118, 47]), (9, 179, "0", [48]), (10, 181, "nu^*U*", [110, 117, 94, 42, 85, 42]), (11, 183, "U~", [85, 126]), (12, 185, "U2ur*/", [85, 50, 117, 114, 42, 47]), (13, 187, "ueU*", [117, 101, 85, 42]), (14, 189, "Uu/", [85, 117, 47]), (15, 191, "U1uq+/", [85, 49, 117, 113, 43, 47])]
/-- what holds of String and of the recipes' texts -/
def bRS (K : KE) (U : State) : Prop :=
  va_Z "java/lang/String" "COMPACT_STRINGS" "Z" (.int 1) (bA K.B) U U.heap ∧ vx_Zq "jdk/internal/util/Preconditions" "SIOOBE_FORMATTER" "Ljava/util/function/BiFunction;" (bA K.B) U U.heap ∧
  ∀ q ∈ brec, vk_R "Boxedvalue$Machine" q.2.1 q.2.2.1 (K.X q.1) U ∧ va_O "java/lang/String" (K.X q.1) (bA K.B) U U.heap ∧ va_OF "java/lang/String" "coder" "B" (.int 0) (K.X q.1) (bA K.B) U U.heap ∧ ∃ v : Nat, va_OF "java/lang/String" "value" "[B" (.ref v) (K.X q.1) (bA K.B) U U.heap ∧ va_T .byte v q.2.2.2.length (fun j => .int (q.2.2.2.getD j 0)) (bA K.B) U U.heap
theorem bRS.to {K : KE} {s U : State} (h : bRS K s) (hq : ∀ a : Nat, a < s.heap.size → ¬ bA K.B a → U.heap[a]? = s.heap[a]?) (hW : s.WarmedH U.vm) : bRS K U := by
  obtain ⟨h1, h2, h3⟩ := h
  refine ⟨va_Z.moved hW.alike (h1.kept hq), vx_Zq.moved hW.alike (h2.kept hq), fun q hm => ?_⟩
  obtain ⟨g1, g2, g3, v, g4, g5⟩ := h3 q hm
  exact ⟨vk_R.warm hW g1, va_O.moved hW.alike (g2.kept hq), va_OF.moved hW.alike (g3.kept hq), v, va_OF.moved hW.alike (g4.kept hq), va_T.moved hW.alike (g5.kept hq)⟩
def bK (K : KE) (U : State) : Prop :=
  va_K K.D vwCl (b_tys K.cy) U ∧
  (∀ (j : Nat) (q : FieldType × Nat × (Nat → Value) × Option (String × String × String)), K.arr[j]? = some q → va_T q.1 (K.X j) q.2.1 q.2.2.1 (bA K.B) U U.heap ∧ ∀ f : String × String × String, q.2.2.2 = some f → va_Z f.1 f.2.1 f.2.2 (.ref (K.X j)) (bA K.B) U U.heap) ∧
  vx_Zq Bundle.tN "UNASSIGNED_STACK" Bundle.steD (bA K.B) U U.heap ∧ vx_Zq Bundle.tN "SUPPRESSED_SENTINEL" Bundle.listD (bA K.B) U U.heap ∧
  ((∀ q ∈ K.str, ∃ sa : Nat, vk_R q.1 q.2.1 q.2.2 sa U) ∧ bRS K U) ∧ va_AO "Boxedvalue$Box" U ∧ va_AO "Boxedvalue$Formula" U ∧ (∀ q ∈ K.nc, va_Nc q.1 q.2 U) ∧ K.B ≤ U.heap.size ∧
  (∀ x ∈ bwD, va_Nw (.declares x) U) ∧ (∀ q ∈ bwN, va_Nw (.fieldLinkNest q.1 q.2.1 q.2.2.1 q.2.2.2.1 q.2.2.2.2.1 q.2.2.2.2.2) U) ∧ (∀ q ∈ bwM, va_Nw (.methodLinkNest q.1 q.2.1 q.2.2.1 q.2.2.2) U) ∧ (∀ x ∈ bwC, va_Nw (.castable x x) U)
theorem bK.to {K : KE} {s U : State} {H : Heap} {locs : List Loc} (h : bK K s) (hS : va_S (bA K.B) s.heap H locs) (hU : U.heap = H) (hW : s.WarmedH U.vm) : bK K U := by
  obtain ⟨h1, h2, h4, h5, h6, h7, h8, h9, h10, h11, h12, h13, h14⟩ := h
  subst hU
  refine ⟨va_K.moved hW.alike h1, fun j q hj => ⟨va_T.moved hW.alike ((h2 j q hj).1.kept hS.2.1), fun f hf => va_Z.moved hW.alike (((h2 j q hj).2 f hf).kept hS.2.1)⟩, vx_Zq.moved hW.alike (h4.kept hS.2.1), vx_Zq.moved hW.alike (h5.kept hS.2.1), ⟨fun q hq => ?_, h6.2.to hS.2.1 hW⟩, h7.moved hW.alike, h8.moved hW.alike, fun q hq => (h9 q hq).moved hW.alike, Nat.le_trans h10 hS.1, fun x hx => (h11 x hx).warmD hW, fun q hq => (h12 q hq).warmF hW, fun q hq => (h13 q hq).warmM hW, fun x hx => (h14 x hx).warmC hW⟩
  obtain ⟨sa, h⟩ := h6.1 q hq
  exact ⟨sa, vk_R.warm hW h⟩
/-- the words that every contract has: all of the tables that keep -/
def bw_G : List Cond := lw_tbl.filter goodWord
theorem bw_in {w : Cond} (h : w ∈ lw_tbl) (hg : goodWord w = true) : w ∈ bw_G := List.mem_filter.mpr ⟨h, hg⟩
theorem bw_Gok : ∀ w ∈ bw_G, goodWord w = true := fun w h => (List.mem_filter.mp h).2
def bPc (K : KE) (n : Nat) (ct : Nat → va_E) (ex : Bool) (av : List Value) : Array Value → State → Prop :=
  va_Pc av (fun U => bw K.D K.B n ct U.heap ∧ bK K U ∧ (ex = true → U.heap.size = K.B + n))
