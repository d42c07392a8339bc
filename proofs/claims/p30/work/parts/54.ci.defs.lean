/-! small steps for the class's items -/
theorem tkp1 {P Q R S : Prop} (h : ((1 : Int) = 1 ∧ P ∧ Q) ∨ ((1 : Int) = 0 ∧ R ∧ S)) : P ∧ Q := by
  rcases h with h | h
  · exact h.2
  · exact absurd h.1 (by decide)
theorem tkp0 {P Q R S : Prop} (h : ((0 : Int) = 1 ∧ P ∧ Q) ∨ ((0 : Int) = 0 ∧ R ∧ S)) : R ∧ S := by
  rcases h with h | h
  · exact absurd h.1 (by decide)
  · exact h.2
theorem rpI_v {tx : Int → Int} {tl p i : Int} {rp : Int → Int} (h : rpI tx tl p i rp) {k : Nat} (k1 : 1 ≤ k) (k3 : k ≤ 3) : rp (i * 7 + (k : Int)) = vN tx tl p k := by
  rcases Classical.em (tW tx tl p wdC) with z | z
  · exact (h.1 z).2.1 k k1 (by omega)
  · exact (h.2 z).2 k k1 k3
theorem rpI_k {tx : Int → Int} {tl p i : Int} {rp : Int → Int} (h : rpI tx tl p i rp) : (tW tx tl p wdC ∧ rp (i * 7 + 0) = 0) ∨ (¬ tW tx tl p wdC ∧ rp (i * 7 + 0) = 1) := by
  rcases Classical.em (tW tx tl p wdC) with z | z
  · exact Or.inl ⟨z, (h.1 z).1⟩
  · exact Or.inr ⟨z, (h.2 z).1⟩
