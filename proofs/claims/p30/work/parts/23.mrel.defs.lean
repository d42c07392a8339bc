/-! what the reference's cells say of the play: the state, the saved ones, the text -/
def hpN (n : Nat) : Nat := if n < 5 then n + 1 else 5
def hpS (n : Nat) (hs : Nat → Int → Int) (g : Int → Int) : Nat → Int → Int := fun j => if n < 5 then (if j = n then g else hs j) else (if j = 4 then g else hs (j + 1))
def mR (μ : Nat → Int → Int) (g : Int → Int) (n : Nat) (hs : Nat → Int → Int) (tl : Int) (tx : Int → Int) : Prop :=
  μ 1 = g ∧ (n ≤ 5 ∧ μ 0 1 = (n : Int) ∧ ∀ j : Nat, j < n → ∀ i : Int, 0 ≤ i → i < 572 → μ 3 (572 * (j : Int) + i) = hs j i) ∧ (μ 0 2 = tl ∧ ∀ i : Int, 0 ≤ i → i < tl → μ 4 i = tx i)
theorem su_va {μ : Nat → Int → Int} {F : Int → Int} {k : Nat} {i v : Int} : su (va_up μ k F) k i v = va_up μ k (zu F i v) := by
  unfold su
  rw [va_up_self]
  funext j
  by_cases e : j = k
  · rw [e, va_up_self, va_up_self]
  · rw [va_up_ne _ _ e, va_up_ne _ _ e, va_up_ne _ _ e]
theorem su_eq (μ : Nat → Int → Int) (k : Nat) (i v : Int) : su μ k i v k = zu (μ k) i v := va_up_self ..
theorem su_ne {μ : Nat → Int → Int} {k k' : Nat} (h : k' ≠ k) (i v : Int) : su μ k i v k' = μ k' := va_up_ne _ _ h
theorem mR_sc {μ : Nat → Int → Int} {g : Int → Int} {n : Nat} {hs : Nat → Int → Int} {tl : Int} {tx : Int → Int} (h : mR μ g n hs tl tx) (k v : Int) (h1 : k ≠ 1) (h2 : k ≠ 2) : mR (su μ 0 k v) g n hs tl tx := by
  obtain ⟨a, ⟨b, c, d⟩, e, f⟩ := h
  refine ⟨(su_ne (by decide) _ _).trans a, ⟨b, ?_, fun j hj i i0 i1 => ?_⟩, ?_, fun i i0 i1 => ?_⟩
  · rw [su_s, if_neg (Ne.symm h1)]; exact c
  · rw [su_n (by decide)]; exact d j hj i i0 i1
  · rw [su_s, if_neg (Ne.symm h2)]; exact e
  · rw [su_n (by decide)]; exact f i i0 i1
theorem mR_put {μ : Nat → Int → Int} {g : Int → Int} {n : Nat} {hs : Nat → Int → Int} {tl : Int} {tx : Int → Int} (h : mR μ g n hs tl tx) (k v : Int) : mR (su μ 1 k v) (zu g k v) n hs tl tx := by
  obtain ⟨a, ⟨b, c, d⟩, e, f⟩ := h
  refine ⟨by rw [su_eq, a], ⟨b, ?_, fun j hj i i0 i1 => ?_⟩, ?_, fun i i0 i1 => ?_⟩
  · rw [su_n (by decide)]; exact c
  · rw [su_n (by decide)]; exact d j hj i i0 i1
  · rw [su_n (by decide)]; exact e
  · rw [su_n (by decide)]; exact f i i0 i1
theorem mR_as {μ : Nat → Int → Int} {g : Int → Int} {n : Nat} {hs : Nat → Int → Int} {tl : Int} {tx : Int → Int} (h : mR μ g n hs tl tx) (F : Int → Int) : mR (va_up μ 2 F) g n hs tl tx := by
  obtain ⟨a, ⟨b, c, d⟩, e, f⟩ := h
  refine ⟨(va_up_ne _ _ (by decide)).trans a, ⟨b, ?_, fun j hj i i0 i1 => ?_⟩, ?_, fun i i0 i1 => ?_⟩
  · rw [va_up_ne _ _ (by decide)]; exact c
  · rw [va_up_ne _ _ (by decide)]; exact d j hj i i0 i1
  · rw [va_up_ne _ _ (by decide)]; exact e
  · rw [va_up_ne _ _ (by decide)]; exact f i i0 i1
/-- all places from 0 to i moved down by a row -/
def shl (f : Int → Int) (i : Nat) : Int → Int := fun x => if 0 ≤ x ∧ x < (i : Int) then f (x + 572) else f x
theorem shl_0 (f : Int → Int) : shl f 0 = f := by
  funext x
  exact if_neg (by omega)
theorem shl_s (f : Int → Int) (i : Nat) : zu (shl f i) (i : Int) (shl f i ((i : Int) + 572)) = shl f (i + 1) := by
  funext x
  unfold shl zu
  by_cases e : x = (i : Int)
  · subst e
    rw [if_pos rfl, if_neg (by omega), if_pos (by omega)]
  · rw [if_neg e]
    dsimp only
    by_cases h : 0 ≤ x ∧ x < (i : Int)
    · rw [if_pos h, if_pos (by omega)]
    · rw [if_neg h, if_neg (by omega)]
def cpy (f g : Int → Int) (k : Int) (i : Nat) : Int → Int := fun x => if k ≤ x ∧ x < k + (i : Int) then g (x - k) else f x
theorem cpy_0 (f g : Int → Int) (k : Int) : cpy f g k 0 = f := by
  funext x
  exact if_neg (by omega)
theorem cpy_s (f g : Int → Int) (k : Int) (i : Nat) {a v : Int} (ha : a = k + (i : Int)) (hv : v = g (i : Int)) : zu (cpy f g k i) a v = cpy f g k (i + 1) := by
  subst ha
  subst hv
  funext x
  unfold cpy zu
  by_cases e : x = k + (i : Int)
  · subst e
    rw [if_pos rfl, if_pos (by omega)]
    congr 1
    omega
  · rw [if_neg e]
    dsimp only
    by_cases h : k ≤ x ∧ x < k + (i : Int)
    · rw [if_pos h, if_pos (by omega)]
    · rw [if_neg h, if_neg (by omega)]
theorem va_up_id (μ : Nat → Int → Int) (k : Nat) : va_up μ k (μ k) = μ := by
  funext j
  by_cases e : j = k
  · rw [e, va_up_self]
  · rw [va_up_ne _ _ e]
theorem mR_act1 {μ : Nat → Int → Int} {g : Int → Int} {n : Nat} {hs : Nat → Int → Int} {tl : Int} {tx : Int → Int} (h : mR μ g n hs tl tx) (hn : μ 0 1 ≠ 5) : mR (su (va_up μ 3 (cpy (μ 3) (μ 1) (572 * μ 0 1) 572)) 0 1 (μ 0 1 + 1)) g (hpN n) (hpS n hs g) tl tx := by
  obtain ⟨a, ⟨b, c, d⟩, e, f⟩ := h
  have h5 : n < 5 := by omega
  refine ⟨?_, ⟨?_, ?_, fun j hj i i0 i1 => ?_⟩, ?_, fun i i0 i1 => ?_⟩
  · rw [su_ne (by decide), va_up_ne _ _ (by decide)]; exact a
  · unfold hpN; rw [if_pos h5]; omega
  · rw [su_s, if_pos rfl]; unfold hpN; rw [if_pos h5, c]; omega
  · unfold hpN at hj
    rw [if_pos h5] at hj
    rw [su_n (by decide), va_up_self]
    unfold hpS cpy
    simp only [if_pos h5]
    by_cases ej : j = n
    · subst ej
      rw [if_pos (by omega), if_pos rfl, a]
      congr 1
      omega
    · rw [if_neg (by omega), if_neg ej]
      exact d j (by omega) i i0 i1
  · rw [su_s, if_neg (by decide), va_up_ne _ _ (by decide)]; exact e
  · rw [su_n (by decide), va_up_ne _ _ (by decide)]; exact f i i0 i1
theorem mR_act2 {μ : Nat → Int → Int} {g : Int → Int} {n : Nat} {hs : Nat → Int → Int} {tl : Int} {tx : Int → Int} (h : mR μ g n hs tl tx) (hn : μ 0 1 = 5) {μ1 : Nat → Int → Int} (e1 : μ1 = su (va_up μ 3 (shl (μ 3) 2288)) 0 1 (μ 0 1 - 1)) : mR (su (va_up μ1 3 (cpy (μ1 3) (μ1 1) (572 * (μ 0 1 - 1)) 572)) 0 1 (μ 0 1 - 1 + 1)) g (hpN n) (hpS n hs g) tl tx := by
  obtain ⟨a, ⟨b, c, d⟩, e, f⟩ := h
  have h5 : n = 5 := by omega
  subst h5
  have q1 : μ1 1 = g := by rw [e1, su_ne (by decide), va_up_ne _ _ (by decide)]; exact a
  have q3 : μ1 3 = shl (μ 3) 2288 := by rw [e1, su_ne (by decide), va_up_self]
  have q4 : μ1 4 = μ 4 := by rw [e1, su_ne (by decide), va_up_ne _ _ (by decide)]
  refine ⟨?_, ⟨?_, ?_, fun j hj i i0 i1 => ?_⟩, ?_, fun i i0 i1 => ?_⟩
  · rw [su_ne (by decide), va_up_ne _ _ (by decide)]; exact q1
  · decide
  · rw [su_s, if_pos rfl]; show _ = (5 : Int); omega
  · have hj5 : j < 5 := hj
    rw [su_n (by decide), va_up_self, q1, q3]
    unfold cpy hpS shl
    simp only [if_neg (show ¬ 5 < 5 by decide)]
    by_cases ej : j = 4
    · subst ej
      rw [if_pos (by omega), if_pos rfl]
      congr 1
      omega
    · rw [if_neg (by omega), if_neg ej, if_pos (by omega)]
      have := d (j + 1) (by omega) i i0 i1
      rw [← this]
      congr 1
      omega
  · rw [su_s, if_neg (by decide), va_up_ne _ _ (by decide), e1, su_s, if_neg (by decide), va_up_ne _ _ (by decide)]; exact e
  · rw [su_n (by decide), va_up_ne _ _ (by decide), q4]; exact f i i0 i1
