/-! READING BY COMPUTING, for the kernel: what comes out is read. -/
def bexec (P : bP) (f d mi pc : Nat) (lv : List (Nat × bV)) (st : List bV) (w : bW) : Option (bR × bW) := match f with
  | 0 => none
  | f + 1 => match P.1 mi pc with
    | none => none
    | some o => match bstep P.2.2.1 (P.2.1 mi).2.2.1 o pc lv st w with
      | some q => bexec P f d mi q.1 q.2.1 q.2.2.1 q.2.2.2
      | none => match bret o (P.2.1 mi).2.2.2.1 st with
        | some v => some (.inl v, w)
        | none => match d, bcal o st w with
          | d + 1, some q => if (q.2.1.map bvc).sum ≤ (P.2.1 q.1).2.2.1 then (match bexec P f d q.1 0 (blva 0 q.2.1) [] w with
            | some (.inl v, w1) => bexec P f (d + 1) mi (pc + 3) lv (v.toList ++ q.2.2) w1
            | _ => none) else none
          | _, _ => none
theorem bexec_X {P : bP} (f : Nat) : ∀ {d mi pc : Nat} {lv : List (Nat × bV)} {st : List bV} {w : bW} {q : bR × bW}, bexec P f d mi pc lv st w = some q → bX P d mi pc lv st w q.1 q.2 := by
  induction f with
  | zero => intro d mi pc lv st w q h; cases h
  | succ f ih =>
    intro d mi pc lv st w q h
    unfold bexec at h
    split at h
    · cases h
    · rename_i o ho
      split at h
      · rename_i z hz
        exact x_step ho hz (ih h)
      · split at h
        · rename_i v hv
          cases h
          exact x_ret ho hv
        · split at h
          · rename_i d' z hz
            split at h
            · rename_i hl
              split at h
              · rename_i v w1 hc
                exact x_call ho hz hl (ih hc) (ih h)
              · cases h
            · cases h
          · cases h
/-- so many instructions of a frame -/
def bgo (P : bP) (f n d mi pc : Nat) (lv : List (Nat × bV)) (st : List bV) (w : bW) : Option bF := match n with
  | 0 => some (pc, lv, st, w)
  | n + 1 => match P.1 mi pc with
    | none => none
    | some o => match bstep P.2.2.1 (P.2.1 mi).2.2.1 o pc lv st w with
      | some q => bgo P f n d mi q.1 q.2.1 q.2.2.1 q.2.2.2
      | none => match d, bcal o st w with
        | d + 1, some q => if (q.2.1.map bvc).sum ≤ (P.2.1 q.1).2.2.1 then (match bexec P f d q.1 0 (blva 0 q.2.1) [] w with
          | some (.inl v, w1) => bgo P f n (d + 1) mi (pc + 3) lv (v.toList ++ q.2.2) w1
          | _ => none) else none
        | _, _ => none
theorem bgo_X {P : bP} {f : Nat} (n : Nat) : ∀ {d mi pc : Nat} {lv : List (Nat × bV)} {st : List bV} {w : bW} {q : bF} {r : bR} {w2 : bW}, bgo P f n d mi pc lv st w = some q → bX P d mi q.1 q.2.1 q.2.2.1 q.2.2.2 r w2 → bX P d mi pc lv st w r w2 := by
  induction n with
  | zero => intro d mi pc lv st w q r w2 h k; cases h; exact k
  | succ n ih =>
    intro d mi pc lv st w q r w2 h k
    unfold bgo at h
    split at h
    · cases h
    · rename_i o ho
      split at h
      · rename_i z hz
        exact x_step ho hz (ih h k)
      · split at h
        · rename_i d' z hz
          split at h
          · rename_i hl
            split at h
            · rename_i v w1 hc
              exact x_call ho hz hl (bexec_X f hc) (ih h k)
            · cases h
          · cases h
        · cases h
