/-! additions in the class's rows -/
section RA
variable {σ : Nat → Int → Int} {g : Int → Int}
def wl (σ : Nat → Int → Int) (a : Int) (n : Nat) : Nat → Int → Int := va_up σ 14 (fun i => if 0 ≤ i ∧ i < 8 * (n : Int) ∧ (i - a) % 8 = 0 then -1 else σ 14 i)
theorem wl_0 (σ : Nat → Int → Int) (a : Int) : wl σ a 0 = σ := by
  funext k j
  unfold wl va_up
  by_cases h : k = 14
  · subst h; rw [if_pos rfl]; exact if_neg (by omega)
  · rw [if_neg h]
theorem wl_s (σ : Nat → Int → Int) {a : Int} (h0 : 0 ≤ a) (h1 : a < 8) (n : Nat) : su (wl σ a n) 14 ((n : Int) * 8 + a) (-1) = wl σ a (n + 1) := by
  funext k j
  by_cases h : k = 14
  · subst h
    rw [su_s]
    show _ = (if 0 ≤ j ∧ j < 8 * ((n + 1 : Nat) : Int) ∧ (j - a) % 8 = 0 then -1 else σ 14 j)
    have e : wl σ a n 14 j = (if 0 ≤ j ∧ j < 8 * (n : Int) ∧ (j - a) % 8 = 0 then -1 else σ 14 j) := rfl
    rw [e]
    by_cases q : j = (n : Int) * 8 + a
    · rw [if_pos q, if_pos (by omega)]
    · rw [if_neg q]
      by_cases z : 0 ≤ j ∧ j < 8 * (n : Int) ∧ (j - a) % 8 = 0
      · rw [if_pos z, if_pos (by omega)]
      · rw [if_neg z, if_neg (by omega)]
  · rw [su_n h]
    show va_up σ 14 _ k j = va_up σ 14 _ k j
    unfold va_up
    rw [if_neg h, if_neg h]
theorem wl_o (σ : Nat → Int → Int) (a : Int) (n : Nat) {k : Nat} (h : k ≠ 14) : wl σ a n k = σ k := by unfold wl va_up; exact if_neg h
theorem wl_14 (σ : Nat → Int → Int) (a : Int) (n : Nat) (i : Int) : wl σ a n 14 i = if 0 ≤ i ∧ i < 8 * (n : Int) ∧ (i - a) % 8 = 0 then -1 else σ 14 i := rfl
theorem rel_mkC {ch wa le al co sh : Int} (hR : Rel σ g) (hI : Inv g) (hn : g 0 < 16) : Rel (su (su (su (su (su (su (su (su (su σ 5 (g 0 * 3) ch) 5 (g 0 * 3 + 1) wa) 5 (g 0 * 3 + 2) le) 6 (g 0) al) 7 (g 0) co) 8 (g 0) sh) 9 (g 0) 0) 10 (g 0) 0) 1 0 (g 0 + 1)) (mkC g ch wa le al co sh) := by
  have hnC := iv_nC hI
  have hnA := iv_nA hI
  have hnH := iv_nH hI
  obtain ⟨⟨a1, a2, a3, a4, a5⟩, ⟨b1, b2, b3⟩, hs, hc, ha, hh⟩ := hR
  have o : ∀ i : Int, i ≠ 0 → (i < 12 ∨ 332 ≤ i) → mkC g ch wa le al co sh i = g i := fun i h h2 => mkC_o (by omega) h (by omega)
  have n0 : ∀ (k : Nat) (i : Int), (k = 0 ∨ k = 2 ∨ k = 3 ∨ k = 4 ∨ 11 ≤ k) → su (su (su (su (su (su (su (su (su σ 5 (g 0 * 3) ch) 5 (g 0 * 3 + 1) wa) 5 (g 0 * 3 + 2) le) 6 (g 0) al) 7 (g 0) co) 8 (g 0) sh) 9 (g 0) 0) 10 (g 0) 0) 1 0 (g 0 + 1) k i = σ k i := fun k i h => by
    rw [su_n (by omega), su_n (by omega), su_n (by omega), su_n (by omega), su_n (by omega), su_n (by omega), su_n (by omega), su_n (by omega), su_n (by omega)]
  refine ⟨⟨by rw [n0 0 _ (by decide), o 3 (by decide) (by decide)]; exact a1, by rw [n0 0 _ (by decide), o 4 (by decide) (by decide)]; exact a2, by rw [n0 0 _ (by decide), o 5 (by decide) (by decide)]; exact a3, by rw [n0 0 _ (by decide), o 6 (by decide) (by decide)]; exact a4, by rw [n0 0 _ (by decide), o 7 (by decide) (by decide)]; exact a5⟩, ⟨by rw [su_s, if_pos rfl, mkC_0], by rw [n0 2 _ (by decide), o 1 (by decide) (by decide)]; exact b2, by rw [n0 3 _ (by decide), o 2 (by decide) (by decide)]; exact b3⟩, fun i i0 i1 => ?_, fun c c0 c1 => ?_, fun a a0 a1 => ?_, fun k k0 k1 => ?_⟩
  · rw [n0 4 _ (by decide)]; unfold gS; rw [o _ (by omega) (by omega)]; exact hs i i0 i1
  · rw [mkC_0] at c1
    rcases Int.lt_or_le c (g 0) with z | z
    · obtain ⟨q1, q2, q3, q4, q5, q6, q7⟩ := hc c c0 z
      have e : ∀ p : Int, 0 ≤ p → p < 20 → gC (mkC g ch wa le al co sh) c p = gC g c p := fun p p0 p1 => mkC_c (by omega) c0 z p0 p1
      have hna := iv_na hI c0 z
      refine ⟨fun m m0 m1 => ?_, ?_, ?_, ?_, ?_, ?_, fun k k0 k1 => ?_⟩
      · rw [e m m0 (by omega), ← q1 m m0 m1, su_n (by decide), su_n (by decide), su_n (by decide), su_n (by decide), su_n (by decide), su_n (by decide), su_s, if_neg (by omega), su_s, if_neg (by omega), su_s, if_neg (by omega)]
      · rw [e 3 (by decide) (by decide), ← q2, su_n (by decide), su_n (by decide), su_n (by decide), su_n (by decide), su_n (by decide), su_s, if_neg (by omega), su_n (by decide), su_n (by decide), su_n (by decide)]
      · rw [e 4 (by decide) (by decide), ← q3, su_n (by decide), su_n (by decide), su_n (by decide), su_n (by decide), su_s, if_neg (by omega), su_n (by decide), su_n (by decide), su_n (by decide), su_n (by decide)]
      · rw [e 5 (by decide) (by decide), ← q4, su_n (by decide), su_n (by decide), su_n (by decide), su_s, if_neg (by omega), su_n (by decide), su_n (by decide), su_n (by decide), su_n (by decide), su_n (by decide)]
      · rw [e 6 (by decide) (by decide), ← q5, su_n (by decide), su_n (by decide), su_s, if_neg (by omega), su_n (by decide), su_n (by decide), su_n (by decide), su_n (by decide), su_n (by decide), su_n (by decide)]
      · rw [e 7 (by decide) (by decide), ← q6, su_n (by decide), su_s, if_neg (by omega), su_n (by decide), su_n (by decide), su_n (by decide), su_n (by decide), su_n (by decide), su_n (by decide), su_n (by decide)]
      · rw [e 7 (by decide) (by decide)] at k1
        rw [n0 11 _ (by decide), n0 12 _ (by decide)]
        unfold gM gX
        rw [e _ (by omega) (by omega), e _ (by omega) (by omega)]
        exact q7 k k0 k1
    · have ec : c = g 0 := by omega
      subst ec
      have e : ∀ p : Int, 0 ≤ p → p < 20 → gC (mkC g ch wa le al co sh) (g 0) p = _ := fun p p0 p1 => mkC_k (by omega) p0 p1
      refine ⟨fun m m0 m1 => ?_, ?_, ?_, ?_, ?_, ?_, fun k k0 k1 => ?_⟩
      · rw [e m m0 (by omega), su_n (by decide), su_n (by decide), su_n (by decide), su_n (by decide), su_n (by decide), su_n (by decide), su_s, su_s, su_s]
        rcases (show m = 0 ∨ m = 1 ∨ m = 2 by omega) with z | z | z <;> subst z
        · rw [if_neg (by omega), if_neg (by omega), if_pos (by omega), if_pos rfl]
        · rw [if_neg (by omega), if_pos (by omega), if_neg (by decide), if_pos rfl]
        · rw [if_pos (by omega), if_neg (by decide), if_neg (by decide), if_pos rfl]
      · rw [e 3 (by decide) (by decide), su_n (by decide), su_n (by decide), su_n (by decide), su_n (by decide), su_n (by decide), su_s, if_pos rfl]; rfl
      · rw [e 4 (by decide) (by decide), su_n (by decide), su_n (by decide), su_n (by decide), su_n (by decide), su_s, if_pos rfl]; rfl
      · rw [e 5 (by decide) (by decide), su_n (by decide), su_n (by decide), su_n (by decide), su_s, if_pos rfl]; rfl
      · rw [e 6 (by decide) (by decide), su_n (by decide), su_n (by decide), su_s, if_pos rfl]; rfl
      · rw [e 7 (by decide) (by decide), su_n (by decide), su_s, if_pos rfl]; rfl
      · rw [e 7 (by decide) (by decide), show (if (7 : Int) = 0 then ch else if (7 : Int) = 1 then wa else if (7 : Int) = 2 then le else if (7 : Int) = 3 then al else if (7 : Int) = 4 then co else if (7 : Int) = 5 then sh else 0) = 0 from rfl] at k1
        omega
  · rw [o 1 (by decide) (by decide)] at a1
    obtain ⟨q1, q2⟩ := ha a a0 a1
    refine ⟨fun m m0 m1 => ?_, fun sc s0 s1 => ?_⟩
    · rw [n0 13 _ (by decide)]; unfold gA; rw [o _ (by omega) (by omega)]; exact q1 m m0 m1
    · rw [n0 14 _ (by decide)]; unfold gW; rw [o _ (by omega) (by omega)]; exact q2 sc s0 s1
  · rw [o 2 (by decide) (by decide)] at k1
    rw [n0 15 _ (by decide), n0 16 _ (by decide), n0 17 _ (by decide), n0 18 _ (by decide), n0 19 _ (by decide)]
    unfold gH
    rw [o _ (by omega) (by omega), o _ (by omega) (by omega), o _ (by omega) (by omega), o _ (by omega) (by omega), o _ (by omega) (by omega)]
    exact hh k k0 k1
theorem rel_mkA {ch wa le : Int} (hR : Rel σ g) (hI : Inv g) (hn : g 1 < 8) : Rel (su (wl (su (su (su σ 13 (g 1 * 3) ch) 13 (g 1 * 3 + 1) wa) 13 (g 1 * 3 + 2) le) (g 1) 12) 2 0 (g 1 + 1)) (mkA g ch wa le) := by
  have hnC := iv_nC hI
  have hnA := iv_nA hI
  have hnH := iv_nH hI
  obtain ⟨⟨a1, a2, a3, a4, a5⟩, ⟨b1, b2, b3⟩, hs, hc, ha, hh⟩ := hR
  have o : ∀ i : Int, i ≠ 1 → (i < 332 ∨ 452 ≤ i) → mkA g ch wa le i = g i := fun i h h2 => mkA_o (by omega) h (by omega) (by omega)
  have n0 : ∀ (k : Nat) (i : Int), k ≠ 2 → k ≠ 13 → k ≠ 14 → su (wl (su (su (su σ 13 (g 1 * 3) ch) 13 (g 1 * 3 + 1) wa) 13 (g 1 * 3 + 2) le) (g 1) 12) 2 0 (g 1 + 1) k i = σ k i := fun k i h1 h2 h3 => by
    rw [su_n (by omega), wl_o _ _ _ h3, su_n (by omega), su_n (by omega), su_n (by omega)]
  refine ⟨⟨by rw [n0 0 _ (by decide) (by decide) (by decide), o 3 (by decide) (by decide)]; exact a1, by rw [n0 0 _ (by decide) (by decide) (by decide), o 4 (by decide) (by decide)]; exact a2, by rw [n0 0 _ (by decide) (by decide) (by decide), o 5 (by decide) (by decide)]; exact a3, by rw [n0 0 _ (by decide) (by decide) (by decide), o 6 (by decide) (by decide)]; exact a4, by rw [n0 0 _ (by decide) (by decide) (by decide), o 7 (by decide) (by decide)]; exact a5⟩, ⟨by rw [n0 1 _ (by decide) (by decide) (by decide), o 0 (by decide) (by decide)]; exact b1, by rw [su_s, if_pos rfl, mkA_1], by rw [n0 3 _ (by decide) (by decide) (by decide), o 2 (by decide) (by decide)]; exact b3⟩, fun i i0 i1 => ?_, fun c c0 c1 => ?_, fun a a0 a1 => ?_, fun k k0 k1 => ?_⟩
  · rw [n0 4 _ (by decide) (by decide) (by decide)]; unfold gS; rw [o _ (by omega) (by omega)]; exact hs i i0 i1
  · rw [o 0 (by decide) (by decide)] at c1
    obtain ⟨q1, q2, q3, q4, q5, q6, q7⟩ := hc c c0 c1
    have hna := iv_na hI c0 c1
    have e : ∀ p : Int, 0 ≤ p → p < 20 → gC (mkA g ch wa le) c p = gC g c p := fun p p0 p1 => o _ (by omega) (by omega)
    refine ⟨fun m m0 m1 => by rw [n0 5 _ (by decide) (by decide) (by decide), e m m0 (by omega)]; exact q1 m m0 m1, by rw [n0 6 _ (by decide) (by decide) (by decide), e 3 (by decide) (by decide)]; exact q2, by rw [n0 7 _ (by decide) (by decide) (by decide), e 4 (by decide) (by decide)]; exact q3, by rw [n0 8 _ (by decide) (by decide) (by decide), e 5 (by decide) (by decide)]; exact q4, by rw [n0 9 _ (by decide) (by decide) (by decide), e 6 (by decide) (by decide)]; exact q5, by rw [n0 10 _ (by decide) (by decide) (by decide), e 7 (by decide) (by decide)]; exact q6, fun k k0 k1 => ?_⟩
    rw [e 7 (by decide) (by decide)] at k1
    rw [n0 11 _ (by decide) (by decide) (by decide), n0 12 _ (by decide) (by decide) (by decide)]
    unfold gM gX
    rw [e _ (by omega) (by omega), e _ (by omega) (by omega)]
    exact q7 k k0 k1
  · rw [mkA_1] at a1
    rcases Int.lt_or_le a (g 1) with z | z
    · obtain ⟨q1, q2⟩ := ha a a0 z
      refine ⟨fun m m0 m1 => ?_, fun sc s0 s1 => ?_⟩
      · have h := q1 m m0 m1
        unfold gA at h ⊢
        rw [su_n (by decide), wl_o _ _ _ (by decide), su_s, if_neg (by omega), su_s, if_neg (by omega), su_s, if_neg (by omega), mkA_o (by omega) (by omega) (by omega) (by omega)]; exact h
      · have h := q2 sc s0 s1
        unfold gW at h ⊢
        rw [su_n (by decide), wl_14, if_neg (by omega), su_n (by decide), su_n (by decide), su_n (by decide), mkA_o (by omega) (by omega) (by omega) (by omega)]; exact h
    · have e : a = g 1 := by omega
      subst e
      refine ⟨fun m m0 m1 => ?_, fun sc s0 s1 => ?_⟩
      · rw [mkA_m (by omega) m0 m1, su_n (by decide), wl_o _ _ _ (by decide), su_s, su_s, su_s]
        rcases (show m = 0 ∨ m = 1 ∨ m = 2 by omega) with z | z | z <;> subst z
        · rw [if_neg (by omega), if_neg (by omega), if_pos (by omega), if_pos rfl]
        · rw [if_neg (by omega), if_pos (by omega), if_neg (by decide), if_pos rfl]
        · rw [if_pos (by omega), if_neg (by decide), if_neg (by decide)]
      · rw [mkA_w (by omega) hn s0 s1, su_n (by decide), wl_14, if_pos (by omega)]
  · rw [o 2 (by decide) (by decide)] at k1
    rw [n0 15 _ (by decide) (by decide) (by decide), n0 16 _ (by decide) (by decide) (by decide), n0 17 _ (by decide) (by decide) (by decide), n0 18 _ (by decide) (by decide) (by decide), n0 19 _ (by decide) (by decide) (by decide)]
    unfold gH
    rw [o _ (by omega) (by omega), o _ (by omega) (by omega), o _ (by omega) (by omega), o _ (by omega) (by omega), o _ (by omega) (by omega)]
    exact hh k k0 k1
theorem rel_mkH {c f n fee r : Int} (hR : Rel σ g) (hI : Inv g) : Rel (su (su (su (su (su (su σ 15 (g 2) c) 16 (g 2) f) 17 (g 2) n) 18 (g 2) r) 19 (g 2) fee) 3 0 (g 2 + 1)) (mkH g c f n fee r) := by
  have hnC := iv_nC hI
  have hnA := iv_nA hI
  have hnH := iv_nH hI
  obtain ⟨⟨a1, a2, a3, a4, a5⟩, ⟨b1, b2, b3⟩, hs, hc, ha, hh⟩ := hR
  have o : ∀ i : Int, i ≠ 2 → i < 452 → mkH g c f n fee r i = g i := fun i h h2 => mkH_o (by omega) h (by omega)
  have n0 : ∀ (k : Nat) (i : Int), k ≠ 3 → k < 15 → su (su (su (su (su (su σ 15 (g 2) c) 16 (g 2) f) 17 (g 2) n) 18 (g 2) r) 19 (g 2) fee) 3 0 (g 2 + 1) k i = σ k i := fun k i h1 h2 => by
    rw [su_n (by omega), su_n (by omega), su_n (by omega), su_n (by omega), su_n (by omega), su_n (by omega)]
  refine ⟨⟨by rw [n0 0 _ (by decide) (by decide), o 3 (by decide) (by decide)]; exact a1, by rw [n0 0 _ (by decide) (by decide), o 4 (by decide) (by decide)]; exact a2, by rw [n0 0 _ (by decide) (by decide), o 5 (by decide) (by decide)]; exact a3, by rw [n0 0 _ (by decide) (by decide), o 6 (by decide) (by decide)]; exact a4, by rw [n0 0 _ (by decide) (by decide), o 7 (by decide) (by decide)]; exact a5⟩, ⟨by rw [n0 1 _ (by decide) (by decide), o 0 (by decide) (by decide)]; exact b1, by rw [n0 2 _ (by decide) (by decide), o 1 (by decide) (by decide)]; exact b2, by rw [su_s, if_pos rfl, mkH_2]⟩, fun i i0 i1 => ?_, fun c2 c0 c1 => ?_, fun a a0 a1 => ?_, fun k k0 k1 => ?_⟩
  · rw [n0 4 _ (by decide) (by decide)]; unfold gS; rw [o _ (by omega) (by omega)]; exact hs i i0 i1
  · rw [o 0 (by decide) (by decide)] at c1
    obtain ⟨q1, q2, q3, q4, q5, q6, q7⟩ := hc c2 c0 c1
    have hna := iv_na hI c0 c1
    have e : ∀ p : Int, 0 ≤ p → p < 20 → gC (mkH g c f n fee r) c2 p = gC g c2 p := fun p p0 p1 => o _ (by omega) (by omega)
    refine ⟨fun m m0 m1 => by rw [n0 5 _ (by decide) (by decide), e m m0 (by omega)]; exact q1 m m0 m1, by rw [n0 6 _ (by decide) (by decide), e 3 (by decide) (by decide)]; exact q2, by rw [n0 7 _ (by decide) (by decide), e 4 (by decide) (by decide)]; exact q3, by rw [n0 8 _ (by decide) (by decide), e 5 (by decide) (by decide)]; exact q4, by rw [n0 9 _ (by decide) (by decide), e 6 (by decide) (by decide)]; exact q5, by rw [n0 10 _ (by decide) (by decide), e 7 (by decide) (by decide)]; exact q6, fun k k0 k1 => ?_⟩
    rw [e 7 (by decide) (by decide)] at k1
    rw [n0 11 _ (by decide) (by decide), n0 12 _ (by decide) (by decide)]
    unfold gM gX
    rw [e _ (by omega) (by omega), e _ (by omega) (by omega)]
    exact q7 k k0 k1
  · rw [o 1 (by decide) (by decide)] at a1
    obtain ⟨q1, q2⟩ := ha a a0 a1
    refine ⟨fun m m0 m1 => ?_, fun sc s0 s1 => ?_⟩
    · rw [n0 13 _ (by decide) (by decide)]; unfold gA; rw [o _ (by omega) (by omega)]; exact q1 m m0 m1
    · rw [n0 14 _ (by decide) (by decide)]; unfold gW; rw [o _ (by omega) (by omega)]; exact q2 sc s0 s1
  · rw [mkH_2] at k1
    rcases Int.lt_or_le k (g 2) with z | z
    · have h := hh k k0 z
      unfold gH at h ⊢
      rw [mkH_o (by omega) (by omega) (by omega), mkH_o (by omega) (by omega) (by omega), mkH_o (by omega) (by omega) (by omega), mkH_o (by omega) (by omega) (by omega), mkH_o (by omega) (by omega) (by omega)]
      refine ⟨?_, ?_, ?_, ?_, ?_⟩
      · rw [su_n (by decide), su_n (by decide), su_n (by decide), su_n (by decide), su_n (by decide), su_s, if_neg (by omega)]; exact h.1
      · rw [su_n (by decide), su_n (by decide), su_n (by decide), su_n (by decide), su_s, if_neg (by omega), su_n (by decide)]; exact h.2.1
      · rw [su_n (by decide), su_n (by decide), su_n (by decide), su_s, if_neg (by omega), su_n (by decide), su_n (by decide)]; exact h.2.2.1
      · rw [su_n (by decide), su_n (by decide), su_s, if_neg (by omega), su_n (by decide), su_n (by decide), su_n (by decide)]; exact h.2.2.2.1
      · rw [su_n (by decide), su_s, if_neg (by omega), su_n (by decide), su_n (by decide), su_n (by decide), su_n (by decide)]; exact h.2.2.2.2
    · have e : k = g 2 := by omega
      subst e
      obtain ⟨e0, e1, e2, e3, e4⟩ := mkH_k (g := g) (c := c) (f := f) (n := n) (fee := fee) (r := r) (by omega)
      rw [e0, e1, e2, e3, e4]
      refine ⟨?_, ?_, ?_, ?_, ?_⟩
      · rw [su_n (by decide), su_n (by decide), su_n (by decide), su_n (by decide), su_n (by decide), su_s, if_pos rfl]
      · rw [su_n (by decide), su_n (by decide), su_n (by decide), su_n (by decide), su_s, if_pos rfl]
      · rw [su_n (by decide), su_n (by decide), su_n (by decide), su_s, if_pos rfl]
      · rw [su_n (by decide), su_n (by decide), su_s, if_pos rfl]
      · rw [su_n (by decide), su_s, if_pos rfl]
end RA
/-! washing and performing, costume by costume -/
noncomputable def clnG (g : Int → Int) (ld st : Int) : Nat → (Int → Int)
  | 0 => g
  | n + 1 => @ite (Int → Int) (bit ld (n : Int)) (Classical.propDecidable _) (zu (clnG g ld st n) (12 + 20 * (n : Int) + 6) (gC g (n : Int) 6 - min (gC g (n : Int) 6) st)) (clnG g ld st n)
theorem clnG_y {g : Int → Int} {ld st : Int} {n : Nat} (h : bit ld (n : Int)) : clnG g ld st (n + 1) = zu (clnG g ld st n) (12 + 20 * (n : Int) + 6) (gC g (n : Int) 6 - min (gC g (n : Int) 6) st) := @if_pos _ (Classical.propDecidable _) h _ _ _
theorem clnG_n {g : Int → Int} {ld st : Int} {n : Nat} (h : ¬ bit ld (n : Int)) : clnG g ld st (n + 1) = clnG g ld st n := @if_neg _ (Classical.propDecidable _) h _ _ _
theorem clnG_o (g : Int → Int) (ld st : Int) (n : Nat) {i : Int} (h : ∀ k : Int, 0 ≤ k → k < (n : Int) → i ≠ 12 + 20 * k + 6) : clnG g ld st n i = g i := by
  induction n with
  | zero => rfl
  | succ n ih =>
    have h1 := ih (fun k k0 k1 => h k k0 (by omega))
    rcases Classical.em (bit ld (n : Int)) with q | q
    · rw [clnG_y q, zu_n (h n (by omega) (by omega)), h1]
    · rw [clnG_n q, h1]
noncomputable def less (g : Int → Int) (ld st k : Int) : Int := tif (bit ld k) (min (gC g k 6) st) 0
theorem inv_cln {g : Int → Int} (hI : Inv g) {ld st : Int} (hs : 0 ≤ st) (n : Nat) (hn : (n : Int) ≤ g 0) : Inv (clnG g ld st n) ∧ clnG g ld st n 0 = g 0 := by
  induction n with
  | zero => exact ⟨hI, rfl⟩
  | succ n ih =>
    obtain ⟨h1, h2⟩ := ih (by omega)
    have hd := iv_di hI (c := (n : Int)) (by omega) (by omega)
    rcases Classical.em (bit ld (n : Int)) with q | q
    · rw [clnG_y q]
      exact ⟨inv_di (by omega) (by omega) (by omega) h1, by rw [zu_n (by omega)]; exact h2⟩
    · rw [clnG_n q]
      exact ⟨h1, h2⟩
noncomputable def soG (g : Int → Int) : Nat → (Int → Int)
  | 0 => g
  | n + 1 => zu (soG g n) (12 + 20 * (n : Int) + 6) (min (gC g (n : Int) 6 + scn g (n : Int)) 9)
theorem soG_s (g : Int → Int) (n : Nat) : soG g (n + 1) = zu (soG g n) (12 + 20 * (n : Int) + 6) (min (gC g (n : Int) 6 + scn g (n : Int)) 9) := rfl
theorem soG_o (g : Int → Int) (n : Nat) {i : Int} (h : ∀ k : Int, 0 ≤ k → k < (n : Int) → i ≠ 12 + 20 * k + 6) : soG g n i = g i := by
  induction n with
  | zero => rfl
  | succ n ih => rw [soG_s, zu_n (h n (by omega) (by omega)), ih (fun k k0 k1 => h k k0 (by omega))]
theorem inv_so {g : Int → Int} (hI : Inv g) (n : Nat) (hn : (n : Int) ≤ g 0) : Inv (soG g n) ∧ soG g n 0 = g 0 := by
  induction n with
  | zero => exact ⟨hI, rfl⟩
  | succ n ih =>
    obtain ⟨h1, h2⟩ := ih (by omega)
    have hd := iv_di hI (c := (n : Int)) (by omega) (by omega)
    have hs := scn_bd g (n : Int)
    rw [soG_s]
    exact ⟨inv_di (by omega) (by omega) (by omega) h1, by rw [zu_n (by omega)]; exact h2⟩
theorem wrs_same {g g' : Int → Int} (h : ∀ i : Int, (i = 1 ∨ 332 ≤ i) → g' i = g i) {sc : Int} (s0 : 0 ≤ sc) (c : Int) : wrs g' sc c = wrs g sc c := by
  unfold wrs
  rw [h 1 (Or.inl rfl)]
  exact sm_congr (fun a a0 _ => by unfold gW; rw [h _ (Or.inr (by omega))])
theorem scn_same {g g' : Int → Int} (h : ∀ i : Int, (i = 1 ∨ 332 ≤ i) → g' i = g i) (c : Int) : scn g' c = scn g c := by
  unfold scn
  exact sm_congr (fun sc s0 _ => by rw [wrs_same h s0])
theorem zu_id (g : Int → Int) (i : Int) : zu g i (g i) = g := by
  funext j
  unfold zu
  split
  · next h => rw [h]
  · rfl
def altG (g : Int → Int) (c m d : Int) : Int → Int := zu (zu (zu g (12 + 20 * c + (8 + 2 * gC g c 7)) m) (12 + 20 * c + (8 + 2 * gC g c 7 + 1)) d) (12 + 20 * c + 7) (gC g c 7 + 1)
theorem rel_alt {σ : Nat → Int → Int} {g : Int → Int} {c m d : Int} (hR : Rel σ g) (hI : Inv g) (h0 : 0 ≤ c) (h1 : c < g 0) (hn : gC g c 7 < 6) : Rel (su (su (su σ 11 (c * 6 + gC g c 7) m) 12 (c * 6 + gC g c 7) d) 10 c (gC g c 7 + 1)) (altG g c m d) := by
  have hna := iv_na hI h0 h1
  have hI1 : Inv (zu g (12 + 20 * c + (8 + 2 * gC g c 7)) m) := inv_am h0 h1 (Int.le_refl _) hn hI
  have e1 : zu g (12 + 20 * c + (8 + 2 * gC g c 7)) m 0 = g 0 := zu_n (by omega)
  have e2 : gC (zu g (12 + 20 * c + (8 + 2 * gC g c 7)) m) c 7 = gC g c 7 := gC_n (by omega)
  have hI2 : Inv (zu (zu g (12 + 20 * c + (8 + 2 * gC g c 7)) m) (12 + 20 * c + (8 + 2 * gC g c 7 + 1)) d) := inv_ac h0 (by rw [e1]; exact h1) (by rw [e2]; exact Int.le_refl _) hn hI1
  have hR1 := rel_am (v := m) h0 h1 (Int.le_refl _) hn hR hI
  have hR2 := rel_ac (c := c) (n := gC g c 7) (v := d) h0 (by rw [e1]; exact h1) (by rw [e2]; exact Int.le_refl _) hn hR1 hI1
  have e3 : gC (zu (zu g (12 + 20 * c + (8 + 2 * gC g c 7)) m) (12 + 20 * c + (8 + 2 * gC g c 7 + 1)) d) c 7 = gC g c 7 := by rw [gC_n (by omega), e2]
  refine rel_cnt h0 (by rw [zu_n (by omega), e1]; exact h1) (by omega) (Or.inr ?_) hR2 hI2
  rw [e3]
  refine ⟨rfl, ?_, ?_⟩
  · rw [su_n (by decide), su_s, if_pos rfl]
    show m = zu (zu g (12 + 20 * c + (8 + 2 * gC g c 7)) m) (12 + 20 * c + (8 + 2 * gC g c 7 + 1)) d (12 + 20 * c + (8 + 2 * gC g c 7))
    rw [zu_n (by omega), zu_s]
  · rw [su_s, if_pos rfl]
    show d = zu _ (12 + 20 * c + (8 + 2 * gC g c 7 + 1)) d (12 + 20 * c + (8 + 2 * gC g c 7 + 1))
    rw [zu_s]
theorem inv_alt {g : Int → Int} {c m d : Int} (hI : Inv g) (h0 : 0 ≤ c) (h1 : c < g 0) (hn : gC g c 7 < 6) (hm : 0 ≤ m ∧ m ≤ 2) (hd : -10 ≤ d ∧ d ≤ 10) : Inv (altG g c m d) := by
  have hna := iv_na hI h0 h1
  have hI1 : Inv (zu g (12 + 20 * c + (8 + 2 * gC g c 7)) m) := inv_am h0 h1 (Int.le_refl _) hn hI
  have e1 : zu g (12 + 20 * c + (8 + 2 * gC g c 7)) m 0 = g 0 := zu_n (by omega)
  have e2 : gC (zu g (12 + 20 * c + (8 + 2 * gC g c 7)) m) c 7 = gC g c 7 := gC_n (by omega)
  have hI2 : Inv (zu (zu g (12 + 20 * c + (8 + 2 * gC g c 7)) m) (12 + 20 * c + (8 + 2 * gC g c 7 + 1)) d) := inv_ac h0 (by rw [e1]; exact h1) (by rw [e2]; exact Int.le_refl _) hn hI1
  have e3 : gC (zu (zu g (12 + 20 * c + (8 + 2 * gC g c 7)) m) (12 + 20 * c + (8 + 2 * gC g c 7 + 1)) d) c 7 = gC g c 7 := by rw [gC_n (by omega), e2]
  refine inv_cnt h0 (by rw [zu_n (by omega), e1]; exact h1) (by omega) (Or.inr ?_) hI2
  rw [e3]
  refine ⟨rfl, ?_, ?_⟩
  · have e : gM (zu (zu g (12 + 20 * c + (8 + 2 * gC g c 7)) m) (12 + 20 * c + (8 + 2 * gC g c 7 + 1)) d) c (gC g c 7) = m := by
      show zu (zu g (12 + 20 * c + (8 + 2 * gC g c 7)) m) (12 + 20 * c + (8 + 2 * gC g c 7 + 1)) d (12 + 20 * c + (8 + 2 * gC g c 7)) = m
      rw [zu_n (by omega), zu_s]
    rw [e]; exact hm
  · have e : gX (zu (zu g (12 + 20 * c + (8 + 2 * gC g c 7)) m) (12 + 20 * c + (8 + 2 * gC g c 7 + 1)) d) c (gC g c 7) = d := by
      show zu _ (12 + 20 * c + (8 + 2 * gC g c 7 + 1)) d (12 + 20 * c + (8 + 2 * gC g c 7 + 1)) = d
      rw [zu_s]
    rw [e]; exact hd
theorem feeF_bd {n r : Int} (n0 : 0 ≤ n) (n1 : n ≤ 60) (r0 : 0 ≤ r) (r1 : r ≤ 50) : 0 ≤ feeF n r ∧ feeF n r ≤ 2600 := by
  have h1 : 0 ≤ n - n / 7 ∧ n - n / 7 ≤ 52 := by omega
  unfold feeF
  exact ⟨Int.mul_nonneg r0 h1.1, Int.le_trans (Int.mul_le_mul r1 h1.2 h1.1 (by decide)) (by decide)⟩
