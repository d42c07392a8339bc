def cpW (σ σ2 : Nat → Int → Int) : Nat → Int → Int := va_up (va_up (va_up (va_up (va_up (va_up (va_up (va_up (su σ 1 0 (σ2 1 0)) 5 (σ2 5)) 6 (σ2 6)) 7 (σ2 7)) 8 (σ2 8)) 9 (σ2 9)) 10 (σ2 10)) 11 (σ2 11)) 12 (σ2 12)
def cpA (σ σ2 : Nat → Int → Int) : Nat → Int → Int := va_up (va_up (su σ 2 0 (σ2 2 0)) 13 (σ2 13)) 14 (σ2 14)
def cpH (σ σ2 : Nat → Int → Int) : Nat → Int → Int := va_up (va_up (va_up (va_up (va_up (su σ 3 0 (σ2 3 0)) 15 (σ2 15)) 16 (σ2 16)) 17 (σ2 17)) 18 (σ2 18)) 19 (σ2 19)
def cpS (σ σ2 : Nat → Int → Int) : Nat → Int → Int := su (su (su (su (su (va_up (cpH (cpA (cpW σ σ2) σ2) σ2) 4 (σ2 4)) 0 0 (σ2 0 0)) 0 1 (σ2 0 1)) 0 2 (σ2 0 2)) 0 3 (σ2 0 3)) 0 4 (σ2 0 4)
theorem cpS_a (σ σ2 : Nat → Int → Int) : cpS σ σ2 4 = σ2 4 ∧ cpS σ σ2 5 = σ2 5 ∧ cpS σ σ2 6 = σ2 6 ∧ cpS σ σ2 7 = σ2 7 ∧ cpS σ σ2 8 = σ2 8 ∧ cpS σ σ2 9 = σ2 9 ∧ cpS σ σ2 10 = σ2 10 ∧ cpS σ σ2 11 = σ2 11 ∧ cpS σ σ2 12 = σ2 12 ∧ cpS σ σ2 13 = σ2 13 ∧ cpS σ σ2 14 = σ2 14 ∧ cpS σ σ2 15 = σ2 15 ∧ cpS σ σ2 16 = σ2 16 ∧ cpS σ σ2 17 = σ2 17 ∧ cpS σ σ2 18 = σ2 18 ∧ cpS σ σ2 19 = σ2 19 := ⟨rfl, rfl, rfl, rfl, rfl, rfl, rfl, rfl, rfl, rfl, rfl, rfl, rfl, rfl, rfl, rfl⟩
theorem cpS_b (σ σ2 : Nat → Int → Int) : cpS σ σ2 0 0 = σ2 0 0 ∧ cpS σ σ2 0 1 = σ2 0 1 ∧ cpS σ σ2 0 2 = σ2 0 2 ∧ cpS σ σ2 0 3 = σ2 0 3 ∧ cpS σ σ2 0 4 = σ2 0 4 ∧ cpS σ σ2 1 0 = σ2 1 0 ∧ cpS σ σ2 2 0 = σ2 2 0 ∧ cpS σ σ2 3 0 = σ2 3 0 := ⟨rfl, rfl, rfl, rfl, rfl, rfl, rfl, rfl⟩
theorem rel_cp {σ σ2 : Nat → Int → Int} {g : Int → Int} (h : Rel σ2 g) : Rel (cpS σ σ2) g := by
  obtain ⟨e4, e5, e6, e7, e8, e9, e10, e11, e12, e13, e14, e15, e16, e17, e18, e19⟩ := cpS_a σ σ2
  obtain ⟨f0, f1, f2, f3, f4, f5, f6, f7⟩ := cpS_b σ σ2
  unfold Rel
  rw [e4, e5, e6, e7, e8, e9, e10, e11, e12, e13, e14, e15, e16, e17, e18, e19, f0, f1, f2, f3, f4, f5, f6, f7]
  exact h
