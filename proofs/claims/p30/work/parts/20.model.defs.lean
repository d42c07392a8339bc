/-! the reference's object: five cells; its one row of 572 is cell 1 -/
def szM (k : Nat) : Nat := match k with
  | 1 => 572
  | 2 => 572
  | 3 => 2860
  | _ => 120
def mC (cI : ClassId) (am : Nat → Nat) (μ : Nat → Int → Int) : Nat → va_E := fun k => match k with
  | 0 => .inr (8, [.int (zI (μ 0 0)), .ref (am 1), .ref (am 2), .ref (am 3), .int (zI (μ 0 1)), .ref (am 4), .int (zI (μ 0 2)), .int (zI (μ 0 3)), .int (zI (μ 0 4)), .int (zI (μ 0 5)), .long (zL (μ 0 6)), .int (zI (μ 0 7))])
  | k => .inl (cI, szM k, .inl (zf (μ k)))
theorem mC_a {cI : ClassId} {am : Nat → Nat} {μ : Nat → Int → Int} (k : Nat) (hk : 1 ≤ k) (i v : Int) : va_up (mC cI am μ) k (.inl (cI, szM k, .inl (zf (zu (μ k) i v)))) = mC cI am (su μ k i v) := by
  funext j
  by_cases hj : j = k
  · subst hj
    show (if j = j then _ else _) = _
    rw [if_pos rfl]
    match j, hk with
    | j + 1, _ =>
      show _ = (.inl (cI, szM (j + 1), .inl (zf (su μ (j + 1) i v (j + 1)))) : va_E)
      simp [su, va_up]
  · show (if j = k then _ else _) = _
    rw [if_neg hj]
    match j with
    | 0 => simp only [mC, su_n (show 0 ≠ k by omega)]
    | j + 1 =>
      show (.inl (cI, szM (j + 1), .inl (zf (μ (j + 1)))) : va_E) = .inl (cI, szM (j + 1), .inl (zf (su μ k i v (j + 1))))
      simp [su, va_up, hj]
theorem mC_0_0 {cI : ClassId} {am : Nat → Nat} {μ : Nat → Int → Int} (v : Int) : va_up (mC cI am μ) 0 (.inr (8, [.int (zI v), .ref (am 1), .ref (am 2), .ref (am 3), .int (zI (μ 0 1)), .ref (am 4), .int (zI (μ 0 2)), .int (zI (μ 0 3)), .int (zI (μ 0 4)), .int (zI (μ 0 5)), .long (zL (μ 0 6)), .int (zI (μ 0 7))])) = mC cI am (su μ 0 0 v) := by
  funext j
  match j with
  | 0 => simp [va_up, mC, su, zu]
  | j + 1 => simp [va_up, mC, su]
theorem mC_0_1 {cI : ClassId} {am : Nat → Nat} {μ : Nat → Int → Int} (v : Int) : va_up (mC cI am μ) 0 (.inr (8, [.int (zI (μ 0 0)), .ref (am 1), .ref (am 2), .ref (am 3), .int (zI v), .ref (am 4), .int (zI (μ 0 2)), .int (zI (μ 0 3)), .int (zI (μ 0 4)), .int (zI (μ 0 5)), .long (zL (μ 0 6)), .int (zI (μ 0 7))])) = mC cI am (su μ 0 1 v) := by
  funext j
  match j with
  | 0 => simp [va_up, mC, su, zu]
  | j + 1 => simp [va_up, mC, su]
theorem mC_0_2 {cI : ClassId} {am : Nat → Nat} {μ : Nat → Int → Int} (v : Int) : va_up (mC cI am μ) 0 (.inr (8, [.int (zI (μ 0 0)), .ref (am 1), .ref (am 2), .ref (am 3), .int (zI (μ 0 1)), .ref (am 4), .int (zI v), .int (zI (μ 0 3)), .int (zI (μ 0 4)), .int (zI (μ 0 5)), .long (zL (μ 0 6)), .int (zI (μ 0 7))])) = mC cI am (su μ 0 2 v) := by
  funext j
  match j with
  | 0 => simp [va_up, mC, su, zu]
  | j + 1 => simp [va_up, mC, su]
theorem mC_0_3 {cI : ClassId} {am : Nat → Nat} {μ : Nat → Int → Int} (v : Int) : va_up (mC cI am μ) 0 (.inr (8, [.int (zI (μ 0 0)), .ref (am 1), .ref (am 2), .ref (am 3), .int (zI (μ 0 1)), .ref (am 4), .int (zI (μ 0 2)), .int (zI v), .int (zI (μ 0 4)), .int (zI (μ 0 5)), .long (zL (μ 0 6)), .int (zI (μ 0 7))])) = mC cI am (su μ 0 3 v) := by
  funext j
  match j with
  | 0 => simp [va_up, mC, su, zu]
  | j + 1 => simp [va_up, mC, su]
theorem mC_0_4 {cI : ClassId} {am : Nat → Nat} {μ : Nat → Int → Int} (v : Int) : va_up (mC cI am μ) 0 (.inr (8, [.int (zI (μ 0 0)), .ref (am 1), .ref (am 2), .ref (am 3), .int (zI (μ 0 1)), .ref (am 4), .int (zI (μ 0 2)), .int (zI (μ 0 3)), .int (zI v), .int (zI (μ 0 5)), .long (zL (μ 0 6)), .int (zI (μ 0 7))])) = mC cI am (su μ 0 4 v) := by
  funext j
  match j with
  | 0 => simp [va_up, mC, su, zu]
  | j + 1 => simp [va_up, mC, su]
theorem mC_0_5 {cI : ClassId} {am : Nat → Nat} {μ : Nat → Int → Int} (v : Int) : va_up (mC cI am μ) 0 (.inr (8, [.int (zI (μ 0 0)), .ref (am 1), .ref (am 2), .ref (am 3), .int (zI (μ 0 1)), .ref (am 4), .int (zI (μ 0 2)), .int (zI (μ 0 3)), .int (zI (μ 0 4)), .int (zI v), .long (zL (μ 0 6)), .int (zI (μ 0 7))])) = mC cI am (su μ 0 5 v) := by
  funext j
  match j with
  | 0 => simp [va_up, mC, su, zu]
  | j + 1 => simp [va_up, mC, su]
theorem mC_0_6 {cI : ClassId} {am : Nat → Nat} {μ : Nat → Int → Int} (v : Int) : va_up (mC cI am μ) 0 (.inr (8, [.int (zI (μ 0 0)), .ref (am 1), .ref (am 2), .ref (am 3), .int (zI (μ 0 1)), .ref (am 4), .int (zI (μ 0 2)), .int (zI (μ 0 3)), .int (zI (μ 0 4)), .int (zI (μ 0 5)), .long (zL v), .int (zI (μ 0 7))])) = mC cI am (su μ 0 6 v) := by
  funext j
  match j with
  | 0 => simp [va_up, mC, su, zu]
  | j + 1 => simp [va_up, mC, su]
theorem mC_0_7 {cI : ClassId} {am : Nat → Nat} {μ : Nat → Int → Int} (v : Int) : va_up (mC cI am μ) 0 (.inr (8, [.int (zI (μ 0 0)), .ref (am 1), .ref (am 2), .ref (am 3), .int (zI (μ 0 1)), .ref (am 4), .int (zI (μ 0 2)), .int (zI (μ 0 3)), .int (zI (μ 0 4)), .int (zI (μ 0 5)), .long (zL (μ 0 6)), .int (zI v)])) = mC cI am (su μ 0 7 v) := by
  funext j
  match j with
  | 0 => simp [va_up, mC, su, zu]
  | j + 1 => simp [va_up, mC, su]
theorem tbD_bd (p : Int) : 2 ≤ tbD p ∧ tbD p ≤ 5 := by
  unfold tbD
  split
  · decide
  · split
    · decide
    · split <;> decide
