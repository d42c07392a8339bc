/-! the class's cells behind the State: the stock, its text, its reader; what its history says -/
def cY (D : va_G) (cI : ClassId) (ad : Nat → Nat) (tl : Int) (tx rd rp : Int → Int) (H : Heap) : Prop :=
  va_at D vwCl (ad 120, .inr (7, [.ref (ad 0), .ref (ad 125), .ref (ad 121), .ref (ad 123)])) H ∧
  va_at D vwCl (ad 121, .inr (5, [.int (zI tl), .ref (ad 122)])) H ∧
  va_at D vwCl (ad 122, .inl (cI, 120, .inl (zf tx))) H ∧
  va_at D vwCl (ad 123, .inr (3, [.int (zI (rd 0)), .int (zI (rd 1)), .int (zI (rd 2)), .int (zI (rd 3)), .int (zI (rd 4)), .int (zI (rd 5)), .ref (ad 121), .ref (ad 124)])) H ∧
  va_at D vwCl (ad 124, .inl (cI, 168, .inl (zf rp))) H
theorem cY.keep {D : va_G} {cI : ClassId} {ad : Nat → Nat} {tl : Int} {tx rd rp : Int → Int} {H H1 : Heap} {A : Nat → Prop} (h : cY D cI ad tl tx rd rp H) (hk : ∀ q : Nat, q < H.size → ¬ A q → H1[q]? = H[q]?) (hA : ∀ k : Nat, 120 ≤ k → k < 125 → ad k < H.size → ¬ A (ad k)) : cY D cI ad tl tx rd rp H1 := by
  obtain ⟨h0, h1, h2, h3, h4⟩ := h
  exact ⟨h0.kept (hk _ h0.lt (hA 120 (by decide) (by decide) h0.lt)), h1.kept (hk _ h1.lt (hA 121 (by decide) (by decide) h1.lt)), h2.kept (hk _ h2.lt (hA 122 (by decide) (by decide) h2.lt)), h3.kept (hk _ h3.lt (hA 123 (by decide) (by decide) h3.lt)), h4.kept (hk _ h4.lt (hA 124 (by decide) (by decide) h4.lt))⟩
def cH (σs : Nat → Nat → Int → Int) (n m : Nat) (hs : Nat → Int → Int) : Prop := ∀ j : Nat, j < n → Rel (σs ((m + 5 - n + j) % 5)) (hs j)
theorem cH_push {σs : Nat → Nat → Int → Int} {n m : Nat} {hs : Nat → Int → Int} {τ : Nat → Int → Int} {g : Int → Int} (h : cH σs n m hs) (hn : n ≤ 5) (hm : m < 5) (hR : Rel τ g) : cH (va_up σs m τ) (hpN n) ((m + 1) % 5) (hpS n hs g) := by
  intro j hj
  unfold hpN at hj ⊢
  unfold hpS
  by_cases h5 : n < 5
  · rw [if_pos h5] at hj ⊢
    simp only [if_pos h5]
    by_cases ej : j = n
    · subst ej
      rw [if_pos rfl, show ((m + 1) % 5 + 5 - (j + 1) + j) % 5 = m by omega, va_up_self]
      exact hR
    · rw [if_neg ej, show ((m + 1) % 5 + 5 - (n + 1) + j) % 5 = (m + 5 - n + j) % 5 by omega, va_up_ne _ _ (by omega)]
      exact h j (by omega)
  · have e5 : n = 5 := by omega
    subst e5
    rw [if_neg h5] at hj ⊢
    simp only [if_neg h5]
    by_cases ej : j = 4
    · subst ej
      rw [if_pos rfl, show ((m + 1) % 5 + 5 - 5 + 4) % 5 = m by omega, va_up_self]
      exact hR
    · rw [if_neg ej, show ((m + 1) % 5 + 5 - 5 + j) % 5 = (m + 5 - 5 + (j + 1)) % 5 by omega, va_up_ne _ _ (by omega)]
      exact h (j + 1) (by omega)
theorem cH_pop {σs : Nat → Nat → Int → Int} {n m k : Nat} {hs : Nat → Int → Int} (h : cH σs n m hs) (hn : n ≤ 5) (hn0 : 0 < n) (hm : m < 5) (hk : k = (m + 4) % 5) : cH σs (n - 1) k hs ∧ Rel (σs k) (hs (n - 1)) := by
  subst hk
  refine ⟨fun j hj => ?_, ?_⟩
  · rw [show ((m + 4) % 5 + 5 - (n - 1) + j) % 5 = (m + 5 - n + j) % 5 by omega]
    exact h j (by omega)
  · have := h (n - 1) (by omega)
    rw [show (m + 5 - n + (n - 1)) % 5 = (m + 4) % 5 by omega] at this
    exact this
theorem hpN_le (n : Nat) : hpN n ≤ 5 := by
  unfold hpN
  split <;> omega
theorem hpN_i (n : Nat) (hn : n ≤ 5) : min ((n : Int) + 1) 5 = ((hpN n : Nat) : Int) := by
  unfold hpN
  split <;> omega
theorem nx_i (m : Nat) (hm : m < 5) : (if m + 1 < 5 then (m : Int) + 1 else 0) = (((m + 1) % 5 : Nat) : Int) := by
  split <;> omega
