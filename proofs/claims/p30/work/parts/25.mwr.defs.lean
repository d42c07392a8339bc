/-! a new costume and a new actor as the reference lays them; what a public method gives back -/
theorem mkC_z (g : Int → Int) {ch wa le al co sh : Int} (h0 : 0 ≤ g 0) : zu (zu (zu (zu (zu (zu (cpy (zu g 0 (g 0 + 1)) (fun _ => 0) (12 + 20 * g 0) 20) (12 + 20 * g 0 + 0) ch) (12 + 20 * g 0 + 1) wa) (12 + 20 * g 0 + 2) le) (12 + 20 * g 0 + 3) al) (12 + 20 * g 0 + 4) co) (12 + 20 * g 0 + 5) sh = mkC g ch wa le al co sh := by
  funext x
  unfold mkC zu cpy
  dsimp only
  repeat' split
  all_goals first | rfl | omega
def stA (f : Int → Int) (a : Int) (i : Nat) : Int → Int := fun x => if 356 ≤ x ∧ x < 356 + 8 * (i : Int) ∧ (x - 356 - a) % 8 = 0 then -1 else f x
theorem stA_0 (f : Int → Int) (a : Int) : stA f a 0 = f := by
  funext x
  exact if_neg (by omega)
theorem stA_s (f : Int → Int) {a : Int} (h0 : 0 ≤ a) (h1 : a < 8) (i : Nat) : zu (stA f a i) (356 + 8 * (i : Int) + a) (-1) = stA f a (i + 1) := by
  funext x
  unfold stA zu
  by_cases e : x = 356 + 8 * (i : Int) + a
  · rw [if_pos e, if_pos (by omega)]
  · rw [if_neg e]
    dsimp only
    by_cases h : 356 ≤ x ∧ x < 356 + 8 * (i : Int) ∧ (x - 356 - a) % 8 = 0
    · rw [if_pos h, if_pos (by omega)]
    · rw [if_neg h, if_neg (by omega)]
theorem mkA_z (g : Int → Int) {ch wa le : Int} (h0 : 0 ≤ g 1) (h1 : g 1 < 8) : stA (zu (zu (zu (zu g 1 (g 1 + 1)) (332 + 3 * g 1) ch) (332 + 3 * g 1 + 1) wa) (332 + 3 * g 1 + 2) le) (g 1) 12 = mkA g ch wa le := by
  funext x
  unfold mkA zu stA
  dsimp only
  repeat' split
  all_goals first | rfl | omega
theorem mR_g {μ : Nat → Int → Int} {g : Int → Int} {n : Nat} {hs : Nat → Int → Int} {tl : Int} {tx : Int → Int} (h : mR μ g n hs tl tx) (F : Int → Int) : mR (va_up μ 1 F) F n hs tl tx := by
  obtain ⟨a, ⟨b, c, d⟩, e, f⟩ := h
  refine ⟨va_up_self .., ⟨b, ?_, fun j hj i i0 i1 => ?_⟩, ?_, fun i i0 i1 => ?_⟩
  · rw [va_up_ne _ _ (by decide)]; exact c
  · rw [va_up_ne _ _ (by decide)]; exact d j hj i i0 i1
  · rw [va_up_ne _ _ (by decide)]; exact e
  · rw [va_up_ne _ _ (by decide)]; exact f i i0 i1
/-- what an act that can be undone gives: refused (E), or done (A, G) -/
def oR (E A : Int) (G g : Int → Int) (n : Nat) (hs : Nat → Int → Int) (g' : Int → Int) (n' : Nat) (hs' : Nat → Int → Int) (r : Int32) : Prop :=
  (E ≠ 0 ∧ r = zI E ∧ g' = g ∧ n' = n ∧ hs' = hs) ∨ (E = 0 ∧ r = zI A ∧ g' = G ∧ n' = hpN n ∧ hs' = hpS n hs g)
theorem oR_no {E A : Int} {G g : Int → Int} {n : Nat} {hs : Nat → Int → Int} {e : Int} (h : E = e) (he : e ≠ 0) : oR E A G g n hs g n hs (zI e) := by
  subst h
  exact Or.inl ⟨he, rfl, rfl, rfl, rfl⟩
theorem oR_ok {E A : Int} {G g : Int → Int} {n : Nat} {hs : Nat → Int → Int} {a : Int} {G' : Int → Int} (h : E = 0) (ha : a = A) (hG : G' = G) : oR E A G g n hs G' (hpN n) (hpS n hs g) (zI a) := by
  subst ha
  subst hG
  exact Or.inr ⟨h, rfl, rfl, rfl, rfl⟩
theorem oR_u {E A : Int} {G g : Int → Int} {n : Nat} {hs : Nat → Int → Int} {g1 g2 : Int → Int} {n1 n2 : Nat} {hs1 hs2 : Nat → Int → Int} {r1 r2 : Int32} (h1 : oR E A G g n hs g1 n1 hs1 r1) (h2 : oR E A G g n hs g2 n2 hs2 r2) : r1 = r2 ∧ g1 = g2 ∧ n1 = n2 ∧ hs1 = hs2 := by
  rcases h1 with ⟨e1, a1, b1, c1, d1⟩ | ⟨e1, a1, b1, c1, d1⟩ <;> rcases h2 with ⟨e2, a2, b2, c2, d2⟩ | ⟨e2, a2, b2, c2, d2⟩
  · exact ⟨a1.trans a2.symm, b1.trans b2.symm, c1.trans c2.symm, d1.trans d2.symm⟩
  · exact absurd e2 e1
  · exact absurd e1 e2
  · exact ⟨a1.trans a2.symm, b1.trans b2.symm, c1.trans c2.symm, d1.trans d2.symm⟩
theorem su_up (μ : Nat → Int → Int) (i v : Int) (F : Int → Int) (k : Nat) : va_up (su μ k i v) k F = va_up μ k F := by
  funext j
  by_cases e : j = k
  · rw [e, va_up_self, va_up_self]
  · rw [va_up_ne _ _ e, va_up_ne _ _ e, su_ne e]
theorem up_sw (μ : Nat → Int → Int) (F G : Int → Int) {j k : Nat} (h : j ≠ k) : va_up (va_up μ j F) k G = va_up (va_up μ k G) j F := by
  funext x
  by_cases e : x = k
  · rw [e, va_up_self, va_up_ne _ _ (Ne.symm h), va_up_self]
  · rw [va_up_ne _ _ e]
    by_cases e2 : x = j
    · rw [e2, va_up_self, va_up_self]
    · rw [va_up_ne _ _ e2, va_up_ne _ _ e2, va_up_ne _ _ e]
theorem ex_s {μ : Nat → Int → Int} (f1 f2 : Int → Int) (i : Nat) : su (su (va_up (va_up μ 1 (cpy f1 f2 0 i)) 2 (cpy f2 f1 0 i)) 1 (i : Int) (va_up (va_up μ 1 (cpy f1 f2 0 i)) 2 (cpy f2 f1 0 i) 2 (i : Int))) 2 (i : Int) (va_up (va_up μ 1 (cpy f1 f2 0 i)) 2 (cpy f2 f1 0 i) 1 (i : Int)) = va_up (va_up μ 1 (cpy f1 f2 0 (i + 1))) 2 (cpy f2 f1 0 (i + 1)) := by
  have o : ∀ f g : Int → Int, cpy f g 0 i (i : Int) = f (i : Int) := fun f g => if_neg (by omega)
  have h2 : va_up (va_up μ 1 (cpy f1 f2 0 i)) 2 (cpy f2 f1 0 i) 2 = cpy f2 f1 0 i := va_up_self ..
  have h1 : va_up (va_up μ 1 (cpy f1 f2 0 i)) 2 (cpy f2 f1 0 i) 1 = cpy f1 f2 0 i := (va_up_ne _ _ (by decide)).trans (va_up_self ..)
  rw [h1, h2, o, o]
  funext k
  by_cases e : k = 2
  · subst e
    rw [su_eq, su_ne (by decide), h2, va_up_self]
    exact cpy_s _ _ _ _ (by omega) rfl
  · by_cases e1 : k = 1
    · subst e1
      rw [su_ne e, su_eq, h1, va_up_ne _ _ e, va_up_self]
      exact cpy_s _ _ _ _ (by omega) rfl
    · rw [su_ne e, su_ne e1, va_up_ne _ _ e, va_up_ne _ _ e1, va_up_ne _ _ e, va_up_ne _ _ e1]
