/-! the reference's readers, what they say -/
def cpb (g : Int → Int) (k sc c : Int) : Prop := (k = 0 ∧ 1 < wrs g sc c) ∨ (k ≠ 0 ∧ hnd g sc c)
theorem cpb_prb (g : Int → Int) {k : Int} (h0 : 0 ≤ k) (h1 : k < 2) : sm (fun sc => sm (fun c => ti (cpb g k sc c)) (g 0).toNat) (12 - k).toNat = prb g k := by
  rcases (show k = 0 ∨ k = 1 by omega) with e | e
  · subst e
    rw [prb_0 rfl, pb0]
    have h : ∀ sc c : Int, ti (cpb g 0 sc c) = ti (1 < wrs g sc c) := fun sc c => by
      rcases Classical.em (1 < wrs g sc c) with q | q
      · rw [ti_t q, ti_t (show cpb g 0 sc c from Or.inl ⟨rfl, q⟩)]
      · rw [ti_f q, ti_f (show ¬ cpb g 0 sc c from fun z => z.elim (fun y => q y.2) (fun y => y.1 rfl))]
    show sm _ 12 = _
    exact congrArg (fun f => sm f 12) (funext (fun sc => congrArg (fun f => sm f (g 0).toNat) (funext (fun c => h sc c))))
  · subst e
    rw [prb_1 rfl, pb1]
    have h : ∀ sc c : Int, ti (cpb g 1 sc c) = ti (hnd g sc c) := fun sc c => by
      rcases Classical.em (hnd g sc c) with q | q
      · rw [ti_t q, ti_t (show cpb g 1 sc c from Or.inr ⟨by decide, q⟩)]
      · rw [ti_f q, ti_f (show ¬ cpb g 1 sc c from fun z => z.elim (fun y => absurd y.1 (by decide)) (fun y => q y.2))]
    show sm _ 11 = _
    exact congrArg (fun f => sm f 11) (funext (fun sc => congrArg (fun f => sm f (g 0).toNat) (funext (fun c => h sc c))))
theorem zi_or0 (x : Int) : zI x ||| zI 0 = zI x := by
  show zI x ||| 0 = _
  exact Int32.or_zero
theorem sm_n0 {P : Int → Prop} {y x : Int} {i : Nat} (h : y = x + sm (fun a => ti (P a)) i) (hn : ¬ P (i : Int)) : y + 0 = x + sm (fun a => ti (P a)) (i + 1) := by
  rw [sm_s, ti_f hn]
  omega
