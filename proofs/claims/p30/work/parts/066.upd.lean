/-! updates: what the class's rows and the one row of 572 do side by side -/
theorem gC_u {g : Int → Int} {c q c' p v : Int} (hp : 0 ≤ p ∧ p < 20) (hq : 0 ≤ q ∧ q < 20) : gC (zu g (12 + 20 * c + q) v) c' p = if c' = c ∧ p = q then v else gC g c' p := by
  show (if 12 + 20 * c' + p = 12 + 20 * c + q then v else g (12 + 20 * c' + p)) = _
  by_cases h : c' = c ∧ p = q
  · rw [if_pos h, if_pos (by omega)]
  · rw [if_neg h, if_neg (fun e => h (by omega))]
    rfl
theorem gC_n {g : Int → Int} {i c p v : Int} (h : 12 + 20 * c + p ≠ i) : gC (zu g i v) c p = gC g c p := zu_n h
theorem gA_n {g : Int → Int} {i a m v : Int} (h : 332 + 3 * a + m ≠ i) : gA (zu g i v) a m = gA g a m := zu_n h
theorem gW_n {g : Int → Int} {i sc a v : Int} (h : 356 + 8 * sc + a ≠ i) : gW (zu g i v) sc a = gW g sc a := zu_n h
theorem gH_n {g : Int → Int} {i k p v : Int} (h : 452 + 5 * k + p ≠ i) : gH (zu g i v) k p = gH g k p := zu_n h
theorem gS_n {g : Int → Int} {i k v : Int} (h : 8 + k ≠ i) : gS (zu g i v) k = gS g k := zu_n h
theorem gM_n {g : Int → Int} {i c k v : Int} (h : 12 + 20 * c + (8 + 2 * k) ≠ i) : gM (zu g i v) c k = gM g c k := zu_n h
theorem gX_n {g : Int → Int} {i c k v : Int} (h : 12 + 20 * c + (8 + 2 * k + 1) ≠ i) : gX (zu g i v) c k = gX g c k := zu_n h

theorem rel_cl {σ : Nat → Int → Int} {g : Int → Int} {c v : Int} (h0 : 0 ≤ c) (h1 : c < g 0) (hR : Rel σ g) (hI : Inv g) : Rel (su σ 8 c v) (zu g (12 + 20 * c + 5) v) := by
  have hnC := iv_nC hI
  have hnA := iv_nA hI
  have hnH := iv_nH hI
  have hna0 := iv_na hI h0 h1
  obtain ⟨⟨a1, a2, a3, a4, a5⟩, ⟨b1, b2, b3⟩, hs, hc, ha, hh⟩ := hR
  refine ⟨⟨by rw [su_n (by decide), zu_n (by omega)]; exact a1, by rw [su_n (by decide), zu_n (by omega)]; exact a2, by rw [su_n (by decide), zu_n (by omega)]; exact a3, by rw [su_n (by decide), zu_n (by omega)]; exact a4, by rw [su_n (by decide), zu_n (by omega)]; exact a5⟩, ⟨by rw [su_n (by decide), zu_n (by omega)]; exact b1, by rw [su_n (by decide), zu_n (by omega)]; exact b2, by rw [su_n (by decide), zu_n (by omega)]; exact b3⟩, ?_, ?_, ?_, ?_⟩
  · intro i i0 i1
    rw [su_n (by decide), gS_n (by omega)]
    exact hs i i0 i1
  · intro c2 c0 c1
    rw [zu_n (by omega)] at c1
    obtain ⟨q1, q2, q3, q4, q5, q6, q7⟩ := hc c2 c0 c1
    have hna := iv_na hI c0 c1
    refine ⟨fun m m0 m1 => ?_, ?_, ?_, ?_, ?_, ?_, fun k k0 k1 => ?_⟩
    · rw [su_n (by decide), gC_n (by omega)]; exact q1 m m0 m1
    · rw [su_n (by decide), gC_n (by omega)]; exact q2
    · rw [su_n (by decide), gC_n (by omega)]; exact q3
    · rw [su_s]
      by_cases e : c2 = c
      · subst e; rw [if_pos rfl, gC_u (by omega) (by omega), if_pos ⟨rfl, rfl⟩]
      · rw [if_neg e, gC_n (by omega)]; exact q4
    · rw [su_n (by decide), gC_n (by omega)]; exact q5
    · rw [su_n (by decide), gC_n (by omega)]; exact q6
    · rw [gC_n (by omega)] at k1
      rw [su_n (by decide), su_n (by decide), gM_n (by omega), gX_n (by omega)]
      exact q7 k k0 k1
  · intro a a0 a1
    rw [zu_n (by omega)] at a1
    obtain ⟨q1, q2⟩ := ha a a0 a1
    refine ⟨fun m m0 m1 => ?_, fun sc s0 s1 => ?_⟩
    · rw [su_n (by decide), gA_n (by omega)]; exact q1 m m0 m1
    · rw [su_n (by decide), gW_n (by omega)]; exact q2 sc s0 s1
  · intro k k0 k1
    rw [zu_n (by omega)] at k1
    obtain ⟨q1, q2, q3, q4, q5⟩ := hh k k0 k1
    refine ⟨?_, ?_, ?_, ?_, ?_⟩
    · rw [su_n (by decide), gH_n (by omega)]; exact q1
    · rw [su_n (by decide), gH_n (by omega)]; exact q2
    · rw [su_n (by decide), gH_n (by omega)]; exact q3
    · rw [su_n (by decide), gH_n (by omega)]; exact q4
    · rw [su_n (by decide), gH_n (by omega)]; exact q5
theorem rel_di {σ : Nat → Int → Int} {g : Int → Int} {c v : Int} (h0 : 0 ≤ c) (h1 : c < g 0) (hR : Rel σ g) (hI : Inv g) : Rel (su σ 9 c v) (zu g (12 + 20 * c + 6) v) := by
  have hnC := iv_nC hI
  have hnA := iv_nA hI
  have hnH := iv_nH hI
  have hna0 := iv_na hI h0 h1
  obtain ⟨⟨a1, a2, a3, a4, a5⟩, ⟨b1, b2, b3⟩, hs, hc, ha, hh⟩ := hR
  refine ⟨⟨by rw [su_n (by decide), zu_n (by omega)]; exact a1, by rw [su_n (by decide), zu_n (by omega)]; exact a2, by rw [su_n (by decide), zu_n (by omega)]; exact a3, by rw [su_n (by decide), zu_n (by omega)]; exact a4, by rw [su_n (by decide), zu_n (by omega)]; exact a5⟩, ⟨by rw [su_n (by decide), zu_n (by omega)]; exact b1, by rw [su_n (by decide), zu_n (by omega)]; exact b2, by rw [su_n (by decide), zu_n (by omega)]; exact b3⟩, ?_, ?_, ?_, ?_⟩
  · intro i i0 i1
    rw [su_n (by decide), gS_n (by omega)]
    exact hs i i0 i1
  · intro c2 c0 c1
    rw [zu_n (by omega)] at c1
    obtain ⟨q1, q2, q3, q4, q5, q6, q7⟩ := hc c2 c0 c1
    have hna := iv_na hI c0 c1
    refine ⟨fun m m0 m1 => ?_, ?_, ?_, ?_, ?_, ?_, fun k k0 k1 => ?_⟩
    · rw [su_n (by decide), gC_n (by omega)]; exact q1 m m0 m1
    · rw [su_n (by decide), gC_n (by omega)]; exact q2
    · rw [su_n (by decide), gC_n (by omega)]; exact q3
    · rw [su_n (by decide), gC_n (by omega)]; exact q4
    · rw [su_s]
      by_cases e : c2 = c
      · subst e; rw [if_pos rfl, gC_u (by omega) (by omega), if_pos ⟨rfl, rfl⟩]
      · rw [if_neg e, gC_n (by omega)]; exact q5
    · rw [su_n (by decide), gC_n (by omega)]; exact q6
    · rw [gC_n (by omega)] at k1
      rw [su_n (by decide), su_n (by decide), gM_n (by omega), gX_n (by omega)]
      exact q7 k k0 k1
  · intro a a0 a1
    rw [zu_n (by omega)] at a1
    obtain ⟨q1, q2⟩ := ha a a0 a1
    refine ⟨fun m m0 m1 => ?_, fun sc s0 s1 => ?_⟩
    · rw [su_n (by decide), gA_n (by omega)]; exact q1 m m0 m1
    · rw [su_n (by decide), gW_n (by omega)]; exact q2 sc s0 s1
  · intro k k0 k1
    rw [zu_n (by omega)] at k1
    obtain ⟨q1, q2, q3, q4, q5⟩ := hh k k0 k1
    refine ⟨?_, ?_, ?_, ?_, ?_⟩
    · rw [su_n (by decide), gH_n (by omega)]; exact q1
    · rw [su_n (by decide), gH_n (by omega)]; exact q2
    · rw [su_n (by decide), gH_n (by omega)]; exact q3
    · rw [su_n (by decide), gH_n (by omega)]; exact q4
    · rw [su_n (by decide), gH_n (by omega)]; exact q5
theorem rel_cnt {σ : Nat → Int → Int} {g : Int → Int} {c v : Int} (h0 : 0 ≤ c) (h1 : c < g 0) (v6 : v ≤ 6) (hv : v ≤ gC g c 7 ∨ (v = gC g c 7 + 1 ∧ σ 11 (c * 6 + gC g c 7) = gM g c (gC g c 7) ∧ σ 12 (c * 6 + gC g c 7) = gX g c (gC g c 7))) (hR : Rel σ g) (hI : Inv g) : Rel (su σ 10 c v) (zu g (12 + 20 * c + 7) v) := by
  have hnC := iv_nC hI
  have hnA := iv_nA hI
  have hnH := iv_nH hI
  have hna0 := iv_na hI h0 h1
  obtain ⟨⟨a1, a2, a3, a4, a5⟩, ⟨b1, b2, b3⟩, hs, hc, ha, hh⟩ := hR
  refine ⟨⟨by rw [su_n (by decide), zu_n (by omega)]; exact a1, by rw [su_n (by decide), zu_n (by omega)]; exact a2, by rw [su_n (by decide), zu_n (by omega)]; exact a3, by rw [su_n (by decide), zu_n (by omega)]; exact a4, by rw [su_n (by decide), zu_n (by omega)]; exact a5⟩, ⟨by rw [su_n (by decide), zu_n (by omega)]; exact b1, by rw [su_n (by decide), zu_n (by omega)]; exact b2, by rw [su_n (by decide), zu_n (by omega)]; exact b3⟩, ?_, ?_, ?_, ?_⟩
  · intro i i0 i1
    rw [su_n (by decide), gS_n (by omega)]
    exact hs i i0 i1
  · intro c2 c0 c1
    rw [zu_n (by omega)] at c1
    obtain ⟨q1, q2, q3, q4, q5, q6, q7⟩ := hc c2 c0 c1
    have hna := iv_na hI c0 c1
    refine ⟨fun m m0 m1 => ?_, ?_, ?_, ?_, ?_, ?_, fun k k0 k1 => ?_⟩
    · rw [su_n (by decide), gC_n (by omega)]; exact q1 m m0 m1
    · rw [su_n (by decide), gC_n (by omega)]; exact q2
    · rw [su_n (by decide), gC_n (by omega)]; exact q3
    · rw [su_n (by decide), gC_n (by omega)]; exact q4
    · rw [su_n (by decide), gC_n (by omega)]; exact q5
    · rw [su_s]
      by_cases e : c2 = c
      · subst e; rw [if_pos rfl, gC_u (by omega) (by omega), if_pos ⟨rfl, rfl⟩]
      · rw [if_neg e, gC_n (by omega)]; exact q6
    · have hv2 := hv
      by_cases e : c2 = c
      · subst e
        rw [gC_u (by omega) (by omega), if_pos ⟨rfl, rfl⟩] at k1
        rw [su_n (by decide), su_n (by decide), gM_n (by omega), gX_n (by omega)]
        rcases Int.lt_or_le k (gC g c2 7) with z | z
        · exact q7 k k0 z
        · have e2 : k = gC g c2 7 := by omega
          rw [e2]
          rcases hv with hv | hv
          · omega
          · exact hv.2
      · rw [gC_n (by omega)] at k1
        rw [su_n (by decide), su_n (by decide), gM_n (by omega), gX_n (by omega)]
        exact q7 k k0 k1
  · intro a a0 a1
    rw [zu_n (by omega)] at a1
    obtain ⟨q1, q2⟩ := ha a a0 a1
    refine ⟨fun m m0 m1 => ?_, fun sc s0 s1 => ?_⟩
    · rw [su_n (by decide), gA_n (by omega)]; exact q1 m m0 m1
    · rw [su_n (by decide), gW_n (by omega)]; exact q2 sc s0 s1
  · intro k k0 k1
    rw [zu_n (by omega)] at k1
    obtain ⟨q1, q2, q3, q4, q5⟩ := hh k k0 k1
    refine ⟨?_, ?_, ?_, ?_, ?_⟩
    · rw [su_n (by decide), gH_n (by omega)]; exact q1
    · rw [su_n (by decide), gH_n (by omega)]; exact q2
    · rw [su_n (by decide), gH_n (by omega)]; exact q3
    · rw [su_n (by decide), gH_n (by omega)]; exact q4
    · rw [su_n (by decide), gH_n (by omega)]; exact q5
theorem rel_am {σ : Nat → Int → Int} {g : Int → Int} {c n v : Int} (h0 : 0 ≤ c) (h1 : c < g 0) (hn : gC g c 7 ≤ n) (hn6 : n < 6) (hR : Rel σ g) (hI : Inv g) : Rel (su σ 11 (c * 6 + n) v) (zu g (12 + 20 * c + (8 + 2 * n)) v) := by
  have hnC := iv_nC hI
  have hnA := iv_nA hI
  have hnH := iv_nH hI
  have hna0 := iv_na hI h0 h1
  obtain ⟨⟨a1, a2, a3, a4, a5⟩, ⟨b1, b2, b3⟩, hs, hc, ha, hh⟩ := hR
  refine ⟨⟨by rw [su_n (by decide), zu_n (by omega)]; exact a1, by rw [su_n (by decide), zu_n (by omega)]; exact a2, by rw [su_n (by decide), zu_n (by omega)]; exact a3, by rw [su_n (by decide), zu_n (by omega)]; exact a4, by rw [su_n (by decide), zu_n (by omega)]; exact a5⟩, ⟨by rw [su_n (by decide), zu_n (by omega)]; exact b1, by rw [su_n (by decide), zu_n (by omega)]; exact b2, by rw [su_n (by decide), zu_n (by omega)]; exact b3⟩, ?_, ?_, ?_, ?_⟩
  · intro i i0 i1
    rw [su_n (by decide), gS_n (by omega)]
    exact hs i i0 i1
  · intro c2 c0 c1
    rw [zu_n (by omega)] at c1
    obtain ⟨q1, q2, q3, q4, q5, q6, q7⟩ := hc c2 c0 c1
    have hna := iv_na hI c0 c1
    refine ⟨fun m m0 m1 => ?_, ?_, ?_, ?_, ?_, ?_, fun k k0 k1 => ?_⟩
    · rw [su_n (by decide), gC_n (by omega)]; exact q1 m m0 m1
    · rw [su_n (by decide), gC_n (by omega)]; exact q2
    · rw [su_n (by decide), gC_n (by omega)]; exact q3
    · rw [su_n (by decide), gC_n (by omega)]; exact q4
    · rw [su_n (by decide), gC_n (by omega)]; exact q5
    · rw [su_n (by decide), gC_n (by omega)]; exact q6
    · rw [gC_n (by omega)] at k1
      by_cases e : c2 = c
      · subst e
        rw [su_s, if_neg (by omega), su_n (by decide), gM_n (by omega), gX_n (by omega)]
        exact q7 k k0 k1
      · rw [su_s, if_neg (by omega), su_n (by decide), gM_n (by omega), gX_n (by omega)]
        exact q7 k k0 k1
  · intro a a0 a1
    rw [zu_n (by omega)] at a1
    obtain ⟨q1, q2⟩ := ha a a0 a1
    refine ⟨fun m m0 m1 => ?_, fun sc s0 s1 => ?_⟩
    · rw [su_n (by decide), gA_n (by omega)]; exact q1 m m0 m1
    · rw [su_n (by decide), gW_n (by omega)]; exact q2 sc s0 s1
  · intro k k0 k1
    rw [zu_n (by omega)] at k1
    obtain ⟨q1, q2, q3, q4, q5⟩ := hh k k0 k1
    refine ⟨?_, ?_, ?_, ?_, ?_⟩
    · rw [su_n (by decide), gH_n (by omega)]; exact q1
    · rw [su_n (by decide), gH_n (by omega)]; exact q2
    · rw [su_n (by decide), gH_n (by omega)]; exact q3
    · rw [su_n (by decide), gH_n (by omega)]; exact q4
    · rw [su_n (by decide), gH_n (by omega)]; exact q5
theorem rel_ac {σ : Nat → Int → Int} {g : Int → Int} {c n v : Int} (h0 : 0 ≤ c) (h1 : c < g 0) (hn : gC g c 7 ≤ n) (hn6 : n < 6) (hR : Rel σ g) (hI : Inv g) : Rel (su σ 12 (c * 6 + n) v) (zu g (12 + 20 * c + (8 + 2 * n + 1)) v) := by
  have hnC := iv_nC hI
  have hnA := iv_nA hI
  have hnH := iv_nH hI
  have hna0 := iv_na hI h0 h1
  obtain ⟨⟨a1, a2, a3, a4, a5⟩, ⟨b1, b2, b3⟩, hs, hc, ha, hh⟩ := hR
  refine ⟨⟨by rw [su_n (by decide), zu_n (by omega)]; exact a1, by rw [su_n (by decide), zu_n (by omega)]; exact a2, by rw [su_n (by decide), zu_n (by omega)]; exact a3, by rw [su_n (by decide), zu_n (by omega)]; exact a4, by rw [su_n (by decide), zu_n (by omega)]; exact a5⟩, ⟨by rw [su_n (by decide), zu_n (by omega)]; exact b1, by rw [su_n (by decide), zu_n (by omega)]; exact b2, by rw [su_n (by decide), zu_n (by omega)]; exact b3⟩, ?_, ?_, ?_, ?_⟩
  · intro i i0 i1
    rw [su_n (by decide), gS_n (by omega)]
    exact hs i i0 i1
  · intro c2 c0 c1
    rw [zu_n (by omega)] at c1
    obtain ⟨q1, q2, q3, q4, q5, q6, q7⟩ := hc c2 c0 c1
    have hna := iv_na hI c0 c1
    refine ⟨fun m m0 m1 => ?_, ?_, ?_, ?_, ?_, ?_, fun k k0 k1 => ?_⟩
    · rw [su_n (by decide), gC_n (by omega)]; exact q1 m m0 m1
    · rw [su_n (by decide), gC_n (by omega)]; exact q2
    · rw [su_n (by decide), gC_n (by omega)]; exact q3
    · rw [su_n (by decide), gC_n (by omega)]; exact q4
    · rw [su_n (by decide), gC_n (by omega)]; exact q5
    · rw [su_n (by decide), gC_n (by omega)]; exact q6
    · rw [gC_n (by omega)] at k1
      by_cases e : c2 = c
      · subst e
        rw [su_n (by decide), su_s, if_neg (by omega), gM_n (by omega), gX_n (by omega)]
        exact q7 k k0 k1
      · rw [su_n (by decide), su_s, if_neg (by omega), gM_n (by omega), gX_n (by omega)]
        exact q7 k k0 k1
  · intro a a0 a1
    rw [zu_n (by omega)] at a1
    obtain ⟨q1, q2⟩ := ha a a0 a1
    refine ⟨fun m m0 m1 => ?_, fun sc s0 s1 => ?_⟩
    · rw [su_n (by decide), gA_n (by omega)]; exact q1 m m0 m1
    · rw [su_n (by decide), gW_n (by omega)]; exact q2 sc s0 s1
  · intro k k0 k1
    rw [zu_n (by omega)] at k1
    obtain ⟨q1, q2, q3, q4, q5⟩ := hh k k0 k1
    refine ⟨?_, ?_, ?_, ?_, ?_⟩
    · rw [su_n (by decide), gH_n (by omega)]; exact q1
    · rw [su_n (by decide), gH_n (by omega)]; exact q2
    · rw [su_n (by decide), gH_n (by omega)]; exact q3
    · rw [su_n (by decide), gH_n (by omega)]; exact q4
    · rw [su_n (by decide), gH_n (by omega)]; exact q5
theorem rel_wo {σ : Nat → Int → Int} {g : Int → Int} {sc a v : Int} (s0 : 0 ≤ sc) (s1 : sc < 12) (a0 : 0 ≤ a) (a1 : a < g 1) (hR : Rel σ g) (hI : Inv g) : Rel (su σ 14 (sc * 8 + a) v) (zu g (356 + 8 * sc + a) v) := by
  have hnC := iv_nC hI
  have hnA := iv_nA hI
  have hnH := iv_nH hI
  obtain ⟨⟨a1, a2, a3, a4, a5⟩, ⟨b1, b2, b3⟩, hs, hc, ha, hh⟩ := hR
  refine ⟨⟨by rw [su_n (by decide), zu_n (by omega)]; exact a1, by rw [su_n (by decide), zu_n (by omega)]; exact a2, by rw [su_n (by decide), zu_n (by omega)]; exact a3, by rw [su_n (by decide), zu_n (by omega)]; exact a4, by rw [su_n (by decide), zu_n (by omega)]; exact a5⟩, ⟨by rw [su_n (by decide), zu_n (by omega)]; exact b1, by rw [su_n (by decide), zu_n (by omega)]; exact b2, by rw [su_n (by decide), zu_n (by omega)]; exact b3⟩, ?_, ?_, ?_, ?_⟩
  · intro i i0 i1
    rw [su_n (by decide), gS_n (by omega)]
    exact hs i i0 i1
  · intro c2 c0 c1
    rw [zu_n (by omega)] at c1
    obtain ⟨q1, q2, q3, q4, q5, q6, q7⟩ := hc c2 c0 c1
    have hna := iv_na hI c0 c1
    refine ⟨fun m m0 m1 => ?_, ?_, ?_, ?_, ?_, ?_, fun k k0 k1 => ?_⟩
    · rw [su_n (by decide), gC_n (by omega)]; exact q1 m m0 m1
    · rw [su_n (by decide), gC_n (by omega)]; exact q2
    · rw [su_n (by decide), gC_n (by omega)]; exact q3
    · rw [su_n (by decide), gC_n (by omega)]; exact q4
    · rw [su_n (by decide), gC_n (by omega)]; exact q5
    · rw [su_n (by decide), gC_n (by omega)]; exact q6
    · rw [gC_n (by omega)] at k1
      rw [su_n (by decide), su_n (by decide), gM_n (by omega), gX_n (by omega)]
      exact q7 k k0 k1
  · intro a2 a0 a1
    rw [zu_n (by omega)] at a1
    obtain ⟨q1, q2⟩ := ha a2 a0 a1
    refine ⟨fun m m0 m1 => ?_, fun sc2 s0 s1 => ?_⟩
    · rw [su_n (by decide), gA_n (by omega)]; exact q1 m m0 m1
    · rw [su_s]
      by_cases e : sc2 = sc ∧ a2 = a
      · rw [if_pos (by omega)]; show _ = zu g _ v _; rw [show 356 + 8 * sc2 + a2 = 356 + 8 * sc + a by omega, zu_s]
      · rw [if_neg (by omega), gW_n (by omega)]; exact q2 sc2 s0 s1
  · intro k k0 k1
    rw [zu_n (by omega)] at k1
    obtain ⟨q1, q2, q3, q4, q5⟩ := hh k k0 k1
    refine ⟨?_, ?_, ?_, ?_, ?_⟩
    · rw [su_n (by decide), gH_n (by omega)]; exact q1
    · rw [su_n (by decide), gH_n (by omega)]; exact q2
    · rw [su_n (by decide), gH_n (by omega)]; exact q3
    · rw [su_n (by decide), gH_n (by omega)]; exact q4
    · rw [su_n (by decide), gH_n (by omega)]; exact q5
theorem rel_se {σ : Nat → Int → Int} {g : Int → Int} {w v : Int} (w0 : 0 ≤ w) (w1 : w < 4) (hR : Rel σ g) (hI : Inv g) : Rel (su σ 4 w v) (zu g (8 + w) v) := by
  have hnC := iv_nC hI
  have hnA := iv_nA hI
  have hnH := iv_nH hI
  obtain ⟨⟨a1, a2, a3, a4, a5⟩, ⟨b1, b2, b3⟩, hs, hc, ha, hh⟩ := hR
  refine ⟨⟨by rw [su_n (by decide), zu_n (by omega)]; exact a1, by rw [su_n (by decide), zu_n (by omega)]; exact a2, by rw [su_n (by decide), zu_n (by omega)]; exact a3, by rw [su_n (by decide), zu_n (by omega)]; exact a4, by rw [su_n (by decide), zu_n (by omega)]; exact a5⟩, ⟨by rw [su_n (by decide), zu_n (by omega)]; exact b1, by rw [su_n (by decide), zu_n (by omega)]; exact b2, by rw [su_n (by decide), zu_n (by omega)]; exact b3⟩, ?_, ?_, ?_, ?_⟩
  · intro i i0 i1
    rw [su_s]
    by_cases e : i = w
    · subst e; rw [if_pos rfl]; show _ = zu g _ v _; rw [zu_s]
    · rw [if_neg e, gS_n (by omega)]; exact hs i i0 i1
  · intro c2 c0 c1
    rw [zu_n (by omega)] at c1
    obtain ⟨q1, q2, q3, q4, q5, q6, q7⟩ := hc c2 c0 c1
    have hna := iv_na hI c0 c1
    refine ⟨fun m m0 m1 => ?_, ?_, ?_, ?_, ?_, ?_, fun k k0 k1 => ?_⟩
    · rw [su_n (by decide), gC_n (by omega)]; exact q1 m m0 m1
    · rw [su_n (by decide), gC_n (by omega)]; exact q2
    · rw [su_n (by decide), gC_n (by omega)]; exact q3
    · rw [su_n (by decide), gC_n (by omega)]; exact q4
    · rw [su_n (by decide), gC_n (by omega)]; exact q5
    · rw [su_n (by decide), gC_n (by omega)]; exact q6
    · rw [gC_n (by omega)] at k1
      rw [su_n (by decide), su_n (by decide), gM_n (by omega), gX_n (by omega)]
      exact q7 k k0 k1
  · intro a a0 a1
    rw [zu_n (by omega)] at a1
    obtain ⟨q1, q2⟩ := ha a a0 a1
    refine ⟨fun m m0 m1 => ?_, fun sc s0 s1 => ?_⟩
    · rw [su_n (by decide), gA_n (by omega)]; exact q1 m m0 m1
    · rw [su_n (by decide), gW_n (by omega)]; exact q2 sc s0 s1
  · intro k k0 k1
    rw [zu_n (by omega)] at k1
    obtain ⟨q1, q2, q3, q4, q5⟩ := hh k k0 k1
    refine ⟨?_, ?_, ?_, ?_, ?_⟩
    · rw [su_n (by decide), gH_n (by omega)]; exact q1
    · rw [su_n (by decide), gH_n (by omega)]; exact q2
    · rw [su_n (by decide), gH_n (by omega)]; exact q3
    · rw [su_n (by decide), gH_n (by omega)]; exact q4
    · rw [su_n (by decide), gH_n (by omega)]; exact q5
theorem rel_to {σ : Nat → Int → Int} {g : Int → Int} {v : Int} (hR : Rel σ g) (hI : Inv g) : Rel (su σ 0 0 v) (zu g (3) v) := by
  have hnC := iv_nC hI
  have hnA := iv_nA hI
  have hnH := iv_nH hI
  obtain ⟨⟨a1, a2, a3, a4, a5⟩, ⟨b1, b2, b3⟩, hs, hc, ha, hh⟩ := hR
  refine ⟨⟨by rw [su_s, if_pos rfl, zu_s], by rw [su_s, if_neg (by omega), zu_n (by omega)]; exact a2, by rw [su_s, if_neg (by omega), zu_n (by omega)]; exact a3, by rw [su_s, if_neg (by omega), zu_n (by omega)]; exact a4, by rw [su_s, if_neg (by omega), zu_n (by omega)]; exact a5⟩, ⟨by rw [su_n (by decide), zu_n (by omega)]; exact b1, by rw [su_n (by decide), zu_n (by omega)]; exact b2, by rw [su_n (by decide), zu_n (by omega)]; exact b3⟩, ?_, ?_, ?_, ?_⟩
  · intro i i0 i1
    rw [su_n (by decide), gS_n (by omega)]
    exact hs i i0 i1
  · intro c2 c0 c1
    rw [zu_n (by omega)] at c1
    obtain ⟨q1, q2, q3, q4, q5, q6, q7⟩ := hc c2 c0 c1
    have hna := iv_na hI c0 c1
    refine ⟨fun m m0 m1 => ?_, ?_, ?_, ?_, ?_, ?_, fun k k0 k1 => ?_⟩
    · rw [su_n (by decide), gC_n (by omega)]; exact q1 m m0 m1
    · rw [su_n (by decide), gC_n (by omega)]; exact q2
    · rw [su_n (by decide), gC_n (by omega)]; exact q3
    · rw [su_n (by decide), gC_n (by omega)]; exact q4
    · rw [su_n (by decide), gC_n (by omega)]; exact q5
    · rw [su_n (by decide), gC_n (by omega)]; exact q6
    · rw [gC_n (by omega)] at k1
      rw [su_n (by decide), su_n (by decide), gM_n (by omega), gX_n (by omega)]
      exact q7 k k0 k1
  · intro a a0 a1
    rw [zu_n (by omega)] at a1
    obtain ⟨q1, q2⟩ := ha a a0 a1
    refine ⟨fun m m0 m1 => ?_, fun sc s0 s1 => ?_⟩
    · rw [su_n (by decide), gA_n (by omega)]; exact q1 m m0 m1
    · rw [su_n (by decide), gW_n (by omega)]; exact q2 sc s0 s1
  · intro k k0 k1
    rw [zu_n (by omega)] at k1
    obtain ⟨q1, q2, q3, q4, q5⟩ := hh k k0 k1
    refine ⟨?_, ?_, ?_, ?_, ?_⟩
    · rw [su_n (by decide), gH_n (by omega)]; exact q1
    · rw [su_n (by decide), gH_n (by omega)]; exact q2
    · rw [su_n (by decide), gH_n (by omega)]; exact q3
    · rw [su_n (by decide), gH_n (by omega)]; exact q4
    · rw [su_n (by decide), gH_n (by omega)]; exact q5
theorem rel_mi {σ : Nat → Int → Int} {g : Int → Int} {v : Int} (hR : Rel σ g) (hI : Inv g) : Rel (su σ 0 1 v) (zu g (4) v) := by
  have hnC := iv_nC hI
  have hnA := iv_nA hI
  have hnH := iv_nH hI
  obtain ⟨⟨a1, a2, a3, a4, a5⟩, ⟨b1, b2, b3⟩, hs, hc, ha, hh⟩ := hR
  refine ⟨⟨by rw [su_s, if_neg (by omega), zu_n (by omega)]; exact a1, by rw [su_s, if_pos rfl, zu_s], by rw [su_s, if_neg (by omega), zu_n (by omega)]; exact a3, by rw [su_s, if_neg (by omega), zu_n (by omega)]; exact a4, by rw [su_s, if_neg (by omega), zu_n (by omega)]; exact a5⟩, ⟨by rw [su_n (by decide), zu_n (by omega)]; exact b1, by rw [su_n (by decide), zu_n (by omega)]; exact b2, by rw [su_n (by decide), zu_n (by omega)]; exact b3⟩, ?_, ?_, ?_, ?_⟩
  · intro i i0 i1
    rw [su_n (by decide), gS_n (by omega)]
    exact hs i i0 i1
  · intro c2 c0 c1
    rw [zu_n (by omega)] at c1
    obtain ⟨q1, q2, q3, q4, q5, q6, q7⟩ := hc c2 c0 c1
    have hna := iv_na hI c0 c1
    refine ⟨fun m m0 m1 => ?_, ?_, ?_, ?_, ?_, ?_, fun k k0 k1 => ?_⟩
    · rw [su_n (by decide), gC_n (by omega)]; exact q1 m m0 m1
    · rw [su_n (by decide), gC_n (by omega)]; exact q2
    · rw [su_n (by decide), gC_n (by omega)]; exact q3
    · rw [su_n (by decide), gC_n (by omega)]; exact q4
    · rw [su_n (by decide), gC_n (by omega)]; exact q5
    · rw [su_n (by decide), gC_n (by omega)]; exact q6
    · rw [gC_n (by omega)] at k1
      rw [su_n (by decide), su_n (by decide), gM_n (by omega), gX_n (by omega)]
      exact q7 k k0 k1
  · intro a a0 a1
    rw [zu_n (by omega)] at a1
    obtain ⟨q1, q2⟩ := ha a a0 a1
    refine ⟨fun m m0 m1 => ?_, fun sc s0 s1 => ?_⟩
    · rw [su_n (by decide), gA_n (by omega)]; exact q1 m m0 m1
    · rw [su_n (by decide), gW_n (by omega)]; exact q2 sc s0 s1
  · intro k k0 k1
    rw [zu_n (by omega)] at k1
    obtain ⟨q1, q2, q3, q4, q5⟩ := hh k k0 k1
    refine ⟨?_, ?_, ?_, ?_, ?_⟩
    · rw [su_n (by decide), gH_n (by omega)]; exact q1
    · rw [su_n (by decide), gH_n (by omega)]; exact q2
    · rw [su_n (by decide), gH_n (by omega)]; exact q3
    · rw [su_n (by decide), gH_n (by omega)]; exact q4
    · rw [su_n (by decide), gH_n (by omega)]; exact q5
theorem rel_fe {σ : Nat → Int → Int} {g : Int → Int} {v : Int} (hR : Rel σ g) (hI : Inv g) : Rel (su σ 0 2 v) (zu g (5) v) := by
  have hnC := iv_nC hI
  have hnA := iv_nA hI
  have hnH := iv_nH hI
  obtain ⟨⟨a1, a2, a3, a4, a5⟩, ⟨b1, b2, b3⟩, hs, hc, ha, hh⟩ := hR
  refine ⟨⟨by rw [su_s, if_neg (by omega), zu_n (by omega)]; exact a1, by rw [su_s, if_neg (by omega), zu_n (by omega)]; exact a2, by rw [su_s, if_pos rfl, zu_s], by rw [su_s, if_neg (by omega), zu_n (by omega)]; exact a4, by rw [su_s, if_neg (by omega), zu_n (by omega)]; exact a5⟩, ⟨by rw [su_n (by decide), zu_n (by omega)]; exact b1, by rw [su_n (by decide), zu_n (by omega)]; exact b2, by rw [su_n (by decide), zu_n (by omega)]; exact b3⟩, ?_, ?_, ?_, ?_⟩
  · intro i i0 i1
    rw [su_n (by decide), gS_n (by omega)]
    exact hs i i0 i1
  · intro c2 c0 c1
    rw [zu_n (by omega)] at c1
    obtain ⟨q1, q2, q3, q4, q5, q6, q7⟩ := hc c2 c0 c1
    have hna := iv_na hI c0 c1
    refine ⟨fun m m0 m1 => ?_, ?_, ?_, ?_, ?_, ?_, fun k k0 k1 => ?_⟩
    · rw [su_n (by decide), gC_n (by omega)]; exact q1 m m0 m1
    · rw [su_n (by decide), gC_n (by omega)]; exact q2
    · rw [su_n (by decide), gC_n (by omega)]; exact q3
    · rw [su_n (by decide), gC_n (by omega)]; exact q4
    · rw [su_n (by decide), gC_n (by omega)]; exact q5
    · rw [su_n (by decide), gC_n (by omega)]; exact q6
    · rw [gC_n (by omega)] at k1
      rw [su_n (by decide), su_n (by decide), gM_n (by omega), gX_n (by omega)]
      exact q7 k k0 k1
  · intro a a0 a1
    rw [zu_n (by omega)] at a1
    obtain ⟨q1, q2⟩ := ha a a0 a1
    refine ⟨fun m m0 m1 => ?_, fun sc s0 s1 => ?_⟩
    · rw [su_n (by decide), gA_n (by omega)]; exact q1 m m0 m1
    · rw [su_n (by decide), gW_n (by omega)]; exact q2 sc s0 s1
  · intro k k0 k1
    rw [zu_n (by omega)] at k1
    obtain ⟨q1, q2, q3, q4, q5⟩ := hh k k0 k1
    refine ⟨?_, ?_, ?_, ?_, ?_⟩
    · rw [su_n (by decide), gH_n (by omega)]; exact q1
    · rw [su_n (by decide), gH_n (by omega)]; exact q2
    · rw [su_n (by decide), gH_n (by omega)]; exact q3
    · rw [su_n (by decide), gH_n (by omega)]; exact q4
    · rw [su_n (by decide), gH_n (by omega)]; exact q5
theorem rel_ws {σ : Nat → Int → Int} {g : Int → Int} {v : Int} (hR : Rel σ g) (hI : Inv g) : Rel (su σ 0 3 v) (zu g (6) v) := by
  have hnC := iv_nC hI
  have hnA := iv_nA hI
  have hnH := iv_nH hI
  obtain ⟨⟨a1, a2, a3, a4, a5⟩, ⟨b1, b2, b3⟩, hs, hc, ha, hh⟩ := hR
  refine ⟨⟨by rw [su_s, if_neg (by omega), zu_n (by omega)]; exact a1, by rw [su_s, if_neg (by omega), zu_n (by omega)]; exact a2, by rw [su_s, if_neg (by omega), zu_n (by omega)]; exact a3, by rw [su_s, if_pos rfl, zu_s], by rw [su_s, if_neg (by omega), zu_n (by omega)]; exact a5⟩, ⟨by rw [su_n (by decide), zu_n (by omega)]; exact b1, by rw [su_n (by decide), zu_n (by omega)]; exact b2, by rw [su_n (by decide), zu_n (by omega)]; exact b3⟩, ?_, ?_, ?_, ?_⟩
  · intro i i0 i1
    rw [su_n (by decide), gS_n (by omega)]
    exact hs i i0 i1
  · intro c2 c0 c1
    rw [zu_n (by omega)] at c1
    obtain ⟨q1, q2, q3, q4, q5, q6, q7⟩ := hc c2 c0 c1
    have hna := iv_na hI c0 c1
    refine ⟨fun m m0 m1 => ?_, ?_, ?_, ?_, ?_, ?_, fun k k0 k1 => ?_⟩
    · rw [su_n (by decide), gC_n (by omega)]; exact q1 m m0 m1
    · rw [su_n (by decide), gC_n (by omega)]; exact q2
    · rw [su_n (by decide), gC_n (by omega)]; exact q3
    · rw [su_n (by decide), gC_n (by omega)]; exact q4
    · rw [su_n (by decide), gC_n (by omega)]; exact q5
    · rw [su_n (by decide), gC_n (by omega)]; exact q6
    · rw [gC_n (by omega)] at k1
      rw [su_n (by decide), su_n (by decide), gM_n (by omega), gX_n (by omega)]
      exact q7 k k0 k1
  · intro a a0 a1
    rw [zu_n (by omega)] at a1
    obtain ⟨q1, q2⟩ := ha a a0 a1
    refine ⟨fun m m0 m1 => ?_, fun sc s0 s1 => ?_⟩
    · rw [su_n (by decide), gA_n (by omega)]; exact q1 m m0 m1
    · rw [su_n (by decide), gW_n (by omega)]; exact q2 sc s0 s1
  · intro k k0 k1
    rw [zu_n (by omega)] at k1
    obtain ⟨q1, q2, q3, q4, q5⟩ := hh k k0 k1
    refine ⟨?_, ?_, ?_, ?_, ?_⟩
    · rw [su_n (by decide), gH_n (by omega)]; exact q1
    · rw [su_n (by decide), gH_n (by omega)]; exact q2
    · rw [su_n (by decide), gH_n (by omega)]; exact q3
    · rw [su_n (by decide), gH_n (by omega)]; exact q4
    · rw [su_n (by decide), gH_n (by omega)]; exact q5
theorem rel_pf {σ : Nat → Int → Int} {g : Int → Int} {v : Int} (hR : Rel σ g) (hI : Inv g) : Rel (su σ 0 4 v) (zu g (7) v) := by
  have hnC := iv_nC hI
  have hnA := iv_nA hI
  have hnH := iv_nH hI
  obtain ⟨⟨a1, a2, a3, a4, a5⟩, ⟨b1, b2, b3⟩, hs, hc, ha, hh⟩ := hR
  refine ⟨⟨by rw [su_s, if_neg (by omega), zu_n (by omega)]; exact a1, by rw [su_s, if_neg (by omega), zu_n (by omega)]; exact a2, by rw [su_s, if_neg (by omega), zu_n (by omega)]; exact a3, by rw [su_s, if_neg (by omega), zu_n (by omega)]; exact a4, by rw [su_s, if_pos rfl, zu_s]⟩, ⟨by rw [su_n (by decide), zu_n (by omega)]; exact b1, by rw [su_n (by decide), zu_n (by omega)]; exact b2, by rw [su_n (by decide), zu_n (by omega)]; exact b3⟩, ?_, ?_, ?_, ?_⟩
  · intro i i0 i1
    rw [su_n (by decide), gS_n (by omega)]
    exact hs i i0 i1
  · intro c2 c0 c1
    rw [zu_n (by omega)] at c1
    obtain ⟨q1, q2, q3, q4, q5, q6, q7⟩ := hc c2 c0 c1
    have hna := iv_na hI c0 c1
    refine ⟨fun m m0 m1 => ?_, ?_, ?_, ?_, ?_, ?_, fun k k0 k1 => ?_⟩
    · rw [su_n (by decide), gC_n (by omega)]; exact q1 m m0 m1
    · rw [su_n (by decide), gC_n (by omega)]; exact q2
    · rw [su_n (by decide), gC_n (by omega)]; exact q3
    · rw [su_n (by decide), gC_n (by omega)]; exact q4
    · rw [su_n (by decide), gC_n (by omega)]; exact q5
    · rw [su_n (by decide), gC_n (by omega)]; exact q6
    · rw [gC_n (by omega)] at k1
      rw [su_n (by decide), su_n (by decide), gM_n (by omega), gX_n (by omega)]
      exact q7 k k0 k1
  · intro a a0 a1
    rw [zu_n (by omega)] at a1
    obtain ⟨q1, q2⟩ := ha a a0 a1
    refine ⟨fun m m0 m1 => ?_, fun sc s0 s1 => ?_⟩
    · rw [su_n (by decide), gA_n (by omega)]; exact q1 m m0 m1
    · rw [su_n (by decide), gW_n (by omega)]; exact q2 sc s0 s1
  · intro k k0 k1
    rw [zu_n (by omega)] at k1
    obtain ⟨q1, q2, q3, q4, q5⟩ := hh k k0 k1
    refine ⟨?_, ?_, ?_, ?_, ?_⟩
    · rw [su_n (by decide), gH_n (by omega)]; exact q1
    · rw [su_n (by decide), gH_n (by omega)]; exact q2
    · rw [su_n (by decide), gH_n (by omega)]; exact q3
    · rw [su_n (by decide), gH_n (by omega)]; exact q4
    · rw [su_n (by decide), gH_n (by omega)]; exact q5
theorem rel_h2 {σ : Nat → Int → Int} {g : Int → Int} {k v : Int} (k0 : 0 ≤ k) (k1 : k < g 2) (hR : Rel σ g) (hI : Inv g) : Rel (su σ 17 k v) (zu g (452 + 5 * k + 2) v) := by
  have hnC := iv_nC hI
  have hnA := iv_nA hI
  have hnH := iv_nH hI
  obtain ⟨⟨a1, a2, a3, a4, a5⟩, ⟨b1, b2, b3⟩, hs, hc, ha, hh⟩ := hR
  refine ⟨⟨by rw [su_n (by decide), zu_n (by omega)]; exact a1, by rw [su_n (by decide), zu_n (by omega)]; exact a2, by rw [su_n (by decide), zu_n (by omega)]; exact a3, by rw [su_n (by decide), zu_n (by omega)]; exact a4, by rw [su_n (by decide), zu_n (by omega)]; exact a5⟩, ⟨by rw [su_n (by decide), zu_n (by omega)]; exact b1, by rw [su_n (by decide), zu_n (by omega)]; exact b2, by rw [su_n (by decide), zu_n (by omega)]; exact b3⟩, ?_, ?_, ?_, ?_⟩
  · intro i i0 i1
    rw [su_n (by decide), gS_n (by omega)]
    exact hs i i0 i1
  · intro c2 c0 c1
    rw [zu_n (by omega)] at c1
    obtain ⟨q1, q2, q3, q4, q5, q6, q7⟩ := hc c2 c0 c1
    have hna := iv_na hI c0 c1
    refine ⟨fun m m0 m1 => ?_, ?_, ?_, ?_, ?_, ?_, fun k k0 k1 => ?_⟩
    · rw [su_n (by decide), gC_n (by omega)]; exact q1 m m0 m1
    · rw [su_n (by decide), gC_n (by omega)]; exact q2
    · rw [su_n (by decide), gC_n (by omega)]; exact q3
    · rw [su_n (by decide), gC_n (by omega)]; exact q4
    · rw [su_n (by decide), gC_n (by omega)]; exact q5
    · rw [su_n (by decide), gC_n (by omega)]; exact q6
    · rw [gC_n (by omega)] at k1
      rw [su_n (by decide), su_n (by decide), gM_n (by omega), gX_n (by omega)]
      exact q7 k k0 k1
  · intro a a0 a1
    rw [zu_n (by omega)] at a1
    obtain ⟨q1, q2⟩ := ha a a0 a1
    refine ⟨fun m m0 m1 => ?_, fun sc s0 s1 => ?_⟩
    · rw [su_n (by decide), gA_n (by omega)]; exact q1 m m0 m1
    · rw [su_n (by decide), gW_n (by omega)]; exact q2 sc s0 s1
  · intro k2 k0 k1
    rw [zu_n (by omega)] at k1
    obtain ⟨q1, q2, q3, q4, q5⟩ := hh k2 k0 k1
    refine ⟨?_, ?_, ?_, ?_, ?_⟩
    · rw [su_n (by decide), gH_n (by omega)]; exact q1
    · rw [su_n (by decide), gH_n (by omega)]; exact q2
    · rw [su_s]
      by_cases e : k2 = k
      · subst e; rw [if_pos rfl]; show _ = zu g _ v _; rw [zu_s]
      · rw [if_neg e, gH_n (by omega)]; exact q3
    · rw [su_n (by decide), gH_n (by omega)]; exact q4
    · rw [su_n (by decide), gH_n (by omega)]; exact q5
theorem rel_h3 {σ : Nat → Int → Int} {g : Int → Int} {k v : Int} (k0 : 0 ≤ k) (k1 : k < g 2) (hR : Rel σ g) (hI : Inv g) : Rel (su σ 19 k v) (zu g (452 + 5 * k + 3) v) := by
  have hnC := iv_nC hI
  have hnA := iv_nA hI
  have hnH := iv_nH hI
  obtain ⟨⟨a1, a2, a3, a4, a5⟩, ⟨b1, b2, b3⟩, hs, hc, ha, hh⟩ := hR
  refine ⟨⟨by rw [su_n (by decide), zu_n (by omega)]; exact a1, by rw [su_n (by decide), zu_n (by omega)]; exact a2, by rw [su_n (by decide), zu_n (by omega)]; exact a3, by rw [su_n (by decide), zu_n (by omega)]; exact a4, by rw [su_n (by decide), zu_n (by omega)]; exact a5⟩, ⟨by rw [su_n (by decide), zu_n (by omega)]; exact b1, by rw [su_n (by decide), zu_n (by omega)]; exact b2, by rw [su_n (by decide), zu_n (by omega)]; exact b3⟩, ?_, ?_, ?_, ?_⟩
  · intro i i0 i1
    rw [su_n (by decide), gS_n (by omega)]
    exact hs i i0 i1
  · intro c2 c0 c1
    rw [zu_n (by omega)] at c1
    obtain ⟨q1, q2, q3, q4, q5, q6, q7⟩ := hc c2 c0 c1
    have hna := iv_na hI c0 c1
    refine ⟨fun m m0 m1 => ?_, ?_, ?_, ?_, ?_, ?_, fun k k0 k1 => ?_⟩
    · rw [su_n (by decide), gC_n (by omega)]; exact q1 m m0 m1
    · rw [su_n (by decide), gC_n (by omega)]; exact q2
    · rw [su_n (by decide), gC_n (by omega)]; exact q3
    · rw [su_n (by decide), gC_n (by omega)]; exact q4
    · rw [su_n (by decide), gC_n (by omega)]; exact q5
    · rw [su_n (by decide), gC_n (by omega)]; exact q6
    · rw [gC_n (by omega)] at k1
      rw [su_n (by decide), su_n (by decide), gM_n (by omega), gX_n (by omega)]
      exact q7 k k0 k1
  · intro a a0 a1
    rw [zu_n (by omega)] at a1
    obtain ⟨q1, q2⟩ := ha a a0 a1
    refine ⟨fun m m0 m1 => ?_, fun sc s0 s1 => ?_⟩
    · rw [su_n (by decide), gA_n (by omega)]; exact q1 m m0 m1
    · rw [su_n (by decide), gW_n (by omega)]; exact q2 sc s0 s1
  · intro k2 k0 k1
    rw [zu_n (by omega)] at k1
    obtain ⟨q1, q2, q3, q4, q5⟩ := hh k2 k0 k1
    refine ⟨?_, ?_, ?_, ?_, ?_⟩
    · rw [su_n (by decide), gH_n (by omega)]; exact q1
    · rw [su_n (by decide), gH_n (by omega)]; exact q2
    · rw [su_n (by decide), gH_n (by omega)]; exact q3
    · rw [su_n (by decide), gH_n (by omega)]; exact q4
    · rw [su_s]
      by_cases e : k2 = k
      · subst e; rw [if_pos rfl]; show _ = zu g _ v _; rw [zu_s]
      · rw [if_neg e, gH_n (by omega)]; exact q5
