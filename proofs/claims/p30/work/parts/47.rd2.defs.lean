/-! the items' states: what holds of them, and the two exchanges -/
theorem va_up_va (μ : Nat → Int → Int) (k : Nat) (F G : Int → Int) : va_up (va_up μ k F) k G = va_up μ k G := by
  funext j
  by_cases e : j = k
  · rw [e, va_up_self, va_up_self]
  · rw [va_up_ne _ _ e, va_up_ne _ _ e, va_up_ne _ _ e]
theorem mR_rX {μ : Nat → Int → Int} {g : Int → Int} {n : Nat} {hs : Nat → Int → Int} {tl : Int} {tx : Int → Int} (h : mR μ g n hs tl tx) (a b c d w : Int) : mR (rX μ a b c d w) g n hs tl tx := by
  obtain ⟨h1, ⟨h2, h3, h4⟩, h5, h6⟩ := h
  refine ⟨(rX_k (by decide)).trans h1, ⟨h2, rX_n.trans h3, fun j hj i i0 i1 => ?_⟩, rX_2.trans h5, fun i i0 i1 => ?_⟩
  · rw [rX_k (by decide)]; exact h4 j hj i i0 i1
  · rw [rX_k (by decide)]; exact h6 i i0 i1
theorem ph_m {tx : Int → Int} {tl p q w q' w' v lo hi : Int} {g : Int → Int} {k : Nat} (h : Ph tx tl g p k q w) (h0 : 0 ≤ q) (h1 : q ≤ tl) (k1 : 1 ≤ k) (kn : k ≤ nN tx tl p) (el : loN (k : Int) = lo) (eh : hiN (k : Int) = hi) (hc : (w = 0 ∧ tN tx tl q lo hi ∧ w' = 0 ∧ q' = tE tx tl q ∧ v = tV tx tl q) ∨ (¬ (w = 0 ∧ tN tx tl q lo hi) ∧ w' = 1 ∧ q' = q)) : Ph tx tl g p (k + 1) q' w' ∧ (w' = 0 → v = vN tx tl p k) ∧ (w' = 0 ∨ w' = 1) ∧ (0 ≤ q' ∧ q' ≤ tl) ∧ (w' = 0 → w = 0) := by
  subst el
  subst eh
  exact ph_n h h0 h1 k1 kn hc
section SQ
variable {tx : Int → Int} {tl p : Int} {g : Int → Int}
theorem vN_bd (h : itO tx tl g p) {k : Nat} (k1 : 1 ≤ k) (kn : k ≤ nN tx tl p) : loN (k : Int) ≤ vN tx tl p k ∧ vN tx tl p k ≤ hiN (k : Int) := by
  have z := h.2.1 k k1 kn
  exact ⟨z.2.2.1, z.2.2.2⟩
theorem itG_o (h : itO tx tl g p) (hI : Inv g) {x : Int} (hx : ¬ (0 ≤ x ∧ x < 572)) : itG tx tl g p x = g x := by
  have h0 := iv_nC hI
  have h1 := iv_nA hI
  rcases Classical.em (tW tx tl p wdC) with q | q
  · have := itO_c h q
    rw [itG_c q]
    exact mkC_o h0.1 (by omega) (by omega)
  · have := itO_a h q
    rw [itG_a q]
    exact mkA_o h1.1 (by omega) (by omega) (by omega)
theorem itG_inv (h : itO tx tl g p) (hI : Inv g) : Inv (itG tx tl g p) ∧ itG tx tl g p 0 + itG tx tl g p 1 = g 0 + g 1 + 1 := by
  have h0 := iv_nC hI
  have h1 := iv_nA hI
  rcases Classical.em (tW tx tl p wdC) with q | q
  · have hg := itO_c h q
    have e := nN_c q
    rw [itG_c q]
    have b1 := vN_bd h (k := 1) (by decide) (by omega)
    have b2 := vN_bd h (k := 2) (by decide) (by omega)
    have b3 := vN_bd h (k := 3) (by decide) (by omega)
    have b4 := vN_bd h (k := 4) (by decide) (by omega)
    have b5 := vN_bd h (k := 5) (by decide) (by omega)
    have b6 := ti_01 (dK tx tl p)
    refine ⟨inv_mkC hI hg b1 b2 b3 b4 b5 b6, ?_⟩
    rw [mkC_0, mkC_o h0.1 (by decide) (by omega)]
    omega
  · have hg := itO_a h q
    have e := nN_a q
    rw [itG_a q]
    have b1 := vN_bd h (k := 1) (by decide) (by omega)
    have b2 := vN_bd h (k := 2) (by decide) (by omega)
    have b3 := vN_bd h (k := 3) (by decide) (by omega)
    refine ⟨inv_mkA hI hg b1 b2 b3, ?_⟩
    rw [mkA_1, mkA_o h1.1 (by decide) (by omega) (by omega)]
    omega
theorem sqO_s {k : Nat} (h : sqO tx tl g k) (h1 : tK tx tl (sqP tx tl k) ≠ 0) (h2 : itO tx tl (sqG tx tl g k) (sqP tx tl k)) : sqO tx tl g (k + 1) := fun j hj => by
  rcases Nat.lt_or_ge j k with z | z
  · exact h j z
  · have e : j = k := by omega
    subst e
    exact ⟨h1, h2⟩
theorem sqO_le {j k : Nat} (h : sqO tx tl g k) (hj : j ≤ k) : sqO tx tl g j := fun i hi => h i (by omega)
theorem sq_inv (hI : Inv g) {k : Nat} (h : sqO tx tl g k) : Inv (sqG tx tl g k) ∧ sqG tx tl g k 0 + sqG tx tl g k 1 = g 0 + g 1 + (k : Int) ∧ ∀ x : Int, ¬ (0 ≤ x ∧ x < 572) → sqG tx tl g k x = g x := by
  induction k with
  | zero => exact ⟨hI, by show g 0 + g 1 = _; omega, fun _ _ => rfl⟩
  | succ k ih =>
    obtain ⟨a, b, c⟩ := ih (sqO_le h (by omega))
    have hk := (h k (by omega)).2
    obtain ⟨d, e⟩ := itG_inv hk a
    refine ⟨d, ?_, fun x hx => (itG_o hk a hx).trans (c x hx)⟩
    show itG tx tl (sqG tx tl g k) (sqP tx tl k) 0 + itG tx tl (sqG tx tl g k) (sqP tx tl k) 1 = _
    omega
theorem sq_le (hI : Inv g) {k : Nat} (h : sqO tx tl g k) : (k : Int) ≤ 24 := by
  obtain ⟨a, b, c⟩ := sq_inv hI h
  have := iv_nC a
  have := iv_nA a
  have := iv_nC hI
  have := iv_nA hI
  omega
theorem ex_g {G A : Int → Int} (hG : ∀ x : Int, ¬ (0 ≤ x ∧ x < 572) → G x = g x) : cpy G (cpy A g 0 572) 0 572 = g := by
  funext x
  by_cases h : 0 ≤ x ∧ x < 572
  · rw [cpy_in _ _ x h.1 h.2, cpy_in _ _ x h.1 h.2]
  · unfold cpy
    rw [if_neg (by omega)]
    exact hG x h
theorem ex_G {G A : Int → Int} (hG : ∀ x : Int, ¬ (0 ≤ x ∧ x < 572) → G x = g x) : cpy g (cpy A G 0 572) 0 572 = G := by
  funext x
  by_cases h : 0 ≤ x ∧ x < 572
  · rw [cpy_in _ _ x h.1 h.2, cpy_in _ _ x h.1 h.2]
  · unfold cpy
    rw [if_neg (by omega)]
    exact (hG x h).symm
theorem ex_1 {μ : Nat → Int → Int} {G A : Int → Int} {a b c d w : Int} (hA : μ 2 = A) (e : cpy G A 0 572 = g) : va_up (va_up (rX (va_up μ 1 G) a b c d w) 1 (cpy (rX (va_up μ 1 G) a b c d w 1) (rX (va_up μ 1 G) a b c d w 2) 0 572)) 2 (cpy (rX (va_up μ 1 G) a b c d w 2) (rX (va_up μ 1 G) a b c d w 1) 0 572) = rX (va_up (va_up μ 1 g) 2 (cpy A G 0 572)) a b c d w := by
  have e1 : rX (va_up μ 1 G) a b c d w 1 = G := (rX_k (by decide)).trans (va_up_self ..)
  have e2 : rX (va_up μ 1 G) a b c d w 2 = A := (rX_k (by decide)).trans ((va_up_ne _ _ (by decide)).trans hA)
  rw [e1, e2, e, rX_up (by decide), rX_up (by decide), va_up_va]
end SQ
