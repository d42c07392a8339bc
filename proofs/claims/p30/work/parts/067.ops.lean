theorem inv_cl {g : Int → Int} {c v : Int} (h0 : 0 ≤ c) (h1 : c < g 0) (hv : 0 ≤ v ∧ v ≤ 1) (hI : Inv g) : Inv (zu g (12 + 20 * c + 5) v) := by
  have hnC := iv_nC hI
  have hnA := iv_nA hI
  have hnH := iv_nH hI
  have hna0 := iv_na hI h0 h1
  obtain ⟨i1, i2, i3, i4, i5, i6, i7, i8, i9⟩ := hI
  refine ⟨?_, ?_, ?_, ?_, ?_, ?_, ?_, ?_, ?_⟩
  · rw [zu_n (by omega)]; exact i1
  · rw [zu_n (by omega)]; exact i2
  · rw [zu_n (by omega)]; exact i3
  · rw [zu_n (by omega)]; exact i4
  · intro m m0 m1
    rw [gS_n (by omega)]; exact i5 m m0 m1
  · rw [gS_n (by omega)]; exact i6
  · intro c2 c0 c1
    rw [zu_n (by omega)] at c1
    obtain ⟨q1, q2, q3, q4, q5, q6, q7⟩ := i7 c2 c0 c1
    refine ⟨fun m m0 m1 => ?_, ?_, ?_, ?_, ?_, ?_, fun k k0 k1 => ?_⟩
    · rw [gC_n (by omega)]; exact q1 m m0 m1
    · rw [gC_n (by omega)]; exact q2
    · rw [gC_n (by omega)]; exact q3
    · rw [gC_u (by omega) (by omega)]
      split
      · exact hv
      · exact q4
    · rw [gC_n (by omega)]; exact q5
    · rw [gC_n (by omega)]; exact q6
    · rw [gC_n (by omega)] at k1
      rw [gM_n (by omega), gX_n (by omega)]; exact q7 k k0 k1
  · intro a a0 a1
    rw [zu_n (by omega)] at a1
    obtain ⟨q1, q2⟩ := i8 a a0 a1
    refine ⟨fun m m0 m1 => ?_, fun sc s0 s1 => ?_⟩
    · rw [gA_n (by omega)]; exact q1 m m0 m1
    · rw [gW_n (by omega), zu_n (by omega)]; exact q2 sc s0 s1
  · intro k k0 k1
    rw [zu_n (by omega)] at k1
    obtain ⟨q1, q2, q3, q4, q5⟩ := i9 k k0 k1
    refine ⟨?_, ?_, ?_, ?_, ?_⟩
    · rw [gH_n (by omega), zu_n (by omega)]; exact q1
    · rw [gH_n (by omega)]; exact q2
    · rw [gH_n (by omega)]; exact q3
    · rw [gH_n (by omega)]; exact q4
    · rw [gH_n (by omega)]; exact q5
theorem inv_di {g : Int → Int} {c v : Int} (h0 : 0 ≤ c) (h1 : c < g 0) (hv : 0 ≤ v ∧ v ≤ 9) (hI : Inv g) : Inv (zu g (12 + 20 * c + 6) v) := by
  have hnC := iv_nC hI
  have hnA := iv_nA hI
  have hnH := iv_nH hI
  have hna0 := iv_na hI h0 h1
  obtain ⟨i1, i2, i3, i4, i5, i6, i7, i8, i9⟩ := hI
  refine ⟨?_, ?_, ?_, ?_, ?_, ?_, ?_, ?_, ?_⟩
  · rw [zu_n (by omega)]; exact i1
  · rw [zu_n (by omega)]; exact i2
  · rw [zu_n (by omega)]; exact i3
  · rw [zu_n (by omega)]; exact i4
  · intro m m0 m1
    rw [gS_n (by omega)]; exact i5 m m0 m1
  · rw [gS_n (by omega)]; exact i6
  · intro c2 c0 c1
    rw [zu_n (by omega)] at c1
    obtain ⟨q1, q2, q3, q4, q5, q6, q7⟩ := i7 c2 c0 c1
    refine ⟨fun m m0 m1 => ?_, ?_, ?_, ?_, ?_, ?_, fun k k0 k1 => ?_⟩
    · rw [gC_n (by omega)]; exact q1 m m0 m1
    · rw [gC_n (by omega)]; exact q2
    · rw [gC_n (by omega)]; exact q3
    · rw [gC_n (by omega)]; exact q4
    · rw [gC_u (by omega) (by omega)]
      split
      · exact hv
      · exact q5
    · rw [gC_n (by omega)]; exact q6
    · rw [gC_n (by omega)] at k1
      rw [gM_n (by omega), gX_n (by omega)]; exact q7 k k0 k1
  · intro a a0 a1
    rw [zu_n (by omega)] at a1
    obtain ⟨q1, q2⟩ := i8 a a0 a1
    refine ⟨fun m m0 m1 => ?_, fun sc s0 s1 => ?_⟩
    · rw [gA_n (by omega)]; exact q1 m m0 m1
    · rw [gW_n (by omega), zu_n (by omega)]; exact q2 sc s0 s1
  · intro k k0 k1
    rw [zu_n (by omega)] at k1
    obtain ⟨q1, q2, q3, q4, q5⟩ := i9 k k0 k1
    refine ⟨?_, ?_, ?_, ?_, ?_⟩
    · rw [gH_n (by omega), zu_n (by omega)]; exact q1
    · rw [gH_n (by omega)]; exact q2
    · rw [gH_n (by omega)]; exact q3
    · rw [gH_n (by omega)]; exact q4
    · rw [gH_n (by omega)]; exact q5
theorem inv_cnt {g : Int → Int} {c v : Int} (h0 : 0 ≤ c) (h1 : c < g 0) (hv : 0 ≤ v ∧ v ≤ 6) (hw : v ≤ gC g c 7 ∨ (v = gC g c 7 + 1 ∧ (0 ≤ gM g c (gC g c 7) ∧ gM g c (gC g c 7) ≤ 2) ∧ (-10 ≤ gX g c (gC g c 7) ∧ gX g c (gC g c 7) ≤ 10))) (hI : Inv g) : Inv (zu g (12 + 20 * c + 7) v) := by
  have hnC := iv_nC hI
  have hnA := iv_nA hI
  have hnH := iv_nH hI
  have hna0 := iv_na hI h0 h1
  obtain ⟨i1, i2, i3, i4, i5, i6, i7, i8, i9⟩ := hI
  refine ⟨?_, ?_, ?_, ?_, ?_, ?_, ?_, ?_, ?_⟩
  · rw [zu_n (by omega)]; exact i1
  · rw [zu_n (by omega)]; exact i2
  · rw [zu_n (by omega)]; exact i3
  · rw [zu_n (by omega)]; exact i4
  · intro m m0 m1
    rw [gS_n (by omega)]; exact i5 m m0 m1
  · rw [gS_n (by omega)]; exact i6
  · intro c2 c0 c1
    rw [zu_n (by omega)] at c1
    obtain ⟨q1, q2, q3, q4, q5, q6, q7⟩ := i7 c2 c0 c1
    refine ⟨fun m m0 m1 => ?_, ?_, ?_, ?_, ?_, ?_, fun k k0 k1 => ?_⟩
    · rw [gC_n (by omega)]; exact q1 m m0 m1
    · rw [gC_n (by omega)]; exact q2
    · rw [gC_n (by omega)]; exact q3
    · rw [gC_n (by omega)]; exact q4
    · rw [gC_n (by omega)]; exact q5
    · rw [gC_u (by omega) (by omega)]
      split
      · exact hv
      · exact q6
    · by_cases e : c2 = c
      · subst e
        rw [gC_u (by omega) (by omega), if_pos ⟨rfl, rfl⟩] at k1
        rw [gM_n (by omega), gX_n (by omega)]
        rcases Int.lt_or_le k (gC g c2 7) with z | z
        · exact q7 k k0 z
        · have e2 : k = gC g c2 7 := by omega
          rw [e2]
          rcases hw with hw | hw
          · omega
          · exact hw.2
      · rw [gC_n (by omega)] at k1
        rw [gM_n (by omega), gX_n (by omega)]
        exact q7 k k0 k1
  · intro a a0 a1
    rw [zu_n (by omega)] at a1
    obtain ⟨q1, q2⟩ := i8 a a0 a1
    refine ⟨fun m m0 m1 => ?_, fun sc s0 s1 => ?_⟩
    · rw [gA_n (by omega)]; exact q1 m m0 m1
    · rw [gW_n (by omega), zu_n (by omega)]; exact q2 sc s0 s1
  · intro k k0 k1
    rw [zu_n (by omega)] at k1
    obtain ⟨q1, q2, q3, q4, q5⟩ := i9 k k0 k1
    refine ⟨?_, ?_, ?_, ?_, ?_⟩
    · rw [gH_n (by omega), zu_n (by omega)]; exact q1
    · rw [gH_n (by omega)]; exact q2
    · rw [gH_n (by omega)]; exact q3
    · rw [gH_n (by omega)]; exact q4
    · rw [gH_n (by omega)]; exact q5
theorem inv_am {g : Int → Int} {c n v : Int} (h0 : 0 ≤ c) (h1 : c < g 0) (hn : gC g c 7 ≤ n) (hn6 : n < 6) (hI : Inv g) : Inv (zu g (12 + 20 * c + (8 + 2 * n)) v) := by
  have hnC := iv_nC hI
  have hnA := iv_nA hI
  have hnH := iv_nH hI
  have hna0 := iv_na hI h0 h1
  obtain ⟨i1, i2, i3, i4, i5, i6, i7, i8, i9⟩ := hI
  refine ⟨?_, ?_, ?_, ?_, ?_, ?_, ?_, ?_, ?_⟩
  · rw [zu_n (by omega)]; exact i1
  · rw [zu_n (by omega)]; exact i2
  · rw [zu_n (by omega)]; exact i3
  · rw [zu_n (by omega)]; exact i4
  · intro m m0 m1
    rw [gS_n (by omega)]; exact i5 m m0 m1
  · rw [gS_n (by omega)]; exact i6
  · intro c2 c0 c1
    rw [zu_n (by omega)] at c1
    obtain ⟨q1, q2, q3, q4, q5, q6, q7⟩ := i7 c2 c0 c1
    refine ⟨fun m m0 m1 => ?_, ?_, ?_, ?_, ?_, ?_, fun k k0 k1 => ?_⟩
    · rw [gC_n (by omega)]; exact q1 m m0 m1
    · rw [gC_n (by omega)]; exact q2
    · rw [gC_n (by omega)]; exact q3
    · rw [gC_n (by omega)]; exact q4
    · rw [gC_n (by omega)]; exact q5
    · rw [gC_n (by omega)]; exact q6
    · rw [gC_n (by omega)] at k1
      by_cases e : c2 = c
      · subst e; rw [gM_n (by omega), gX_n (by omega)]; exact q7 k k0 k1
      · rw [gM_n (by omega), gX_n (by omega)]; exact q7 k k0 k1
  · intro a a0 a1
    rw [zu_n (by omega)] at a1
    obtain ⟨q1, q2⟩ := i8 a a0 a1
    refine ⟨fun m m0 m1 => ?_, fun sc s0 s1 => ?_⟩
    · rw [gA_n (by omega)]; exact q1 m m0 m1
    · rw [gW_n (by omega), zu_n (by omega)]; exact q2 sc s0 s1
  · intro k k0 k1
    rw [zu_n (by omega)] at k1
    obtain ⟨q1, q2, q3, q4, q5⟩ := i9 k k0 k1
    refine ⟨?_, ?_, ?_, ?_, ?_⟩
    · rw [gH_n (by omega), zu_n (by omega)]; exact q1
    · rw [gH_n (by omega)]; exact q2
    · rw [gH_n (by omega)]; exact q3
    · rw [gH_n (by omega)]; exact q4
    · rw [gH_n (by omega)]; exact q5
theorem inv_ac {g : Int → Int} {c n v : Int} (h0 : 0 ≤ c) (h1 : c < g 0) (hn : gC g c 7 ≤ n) (hn6 : n < 6) (hI : Inv g) : Inv (zu g (12 + 20 * c + (8 + 2 * n + 1)) v) := by
  have hnC := iv_nC hI
  have hnA := iv_nA hI
  have hnH := iv_nH hI
  have hna0 := iv_na hI h0 h1
  obtain ⟨i1, i2, i3, i4, i5, i6, i7, i8, i9⟩ := hI
  refine ⟨?_, ?_, ?_, ?_, ?_, ?_, ?_, ?_, ?_⟩
  · rw [zu_n (by omega)]; exact i1
  · rw [zu_n (by omega)]; exact i2
  · rw [zu_n (by omega)]; exact i3
  · rw [zu_n (by omega)]; exact i4
  · intro m m0 m1
    rw [gS_n (by omega)]; exact i5 m m0 m1
  · rw [gS_n (by omega)]; exact i6
  · intro c2 c0 c1
    rw [zu_n (by omega)] at c1
    obtain ⟨q1, q2, q3, q4, q5, q6, q7⟩ := i7 c2 c0 c1
    refine ⟨fun m m0 m1 => ?_, ?_, ?_, ?_, ?_, ?_, fun k k0 k1 => ?_⟩
    · rw [gC_n (by omega)]; exact q1 m m0 m1
    · rw [gC_n (by omega)]; exact q2
    · rw [gC_n (by omega)]; exact q3
    · rw [gC_n (by omega)]; exact q4
    · rw [gC_n (by omega)]; exact q5
    · rw [gC_n (by omega)]; exact q6
    · rw [gC_n (by omega)] at k1
      by_cases e : c2 = c
      · subst e; rw [gM_n (by omega), gX_n (by omega)]; exact q7 k k0 k1
      · rw [gM_n (by omega), gX_n (by omega)]; exact q7 k k0 k1
  · intro a a0 a1
    rw [zu_n (by omega)] at a1
    obtain ⟨q1, q2⟩ := i8 a a0 a1
    refine ⟨fun m m0 m1 => ?_, fun sc s0 s1 => ?_⟩
    · rw [gA_n (by omega)]; exact q1 m m0 m1
    · rw [gW_n (by omega), zu_n (by omega)]; exact q2 sc s0 s1
  · intro k k0 k1
    rw [zu_n (by omega)] at k1
    obtain ⟨q1, q2, q3, q4, q5⟩ := i9 k k0 k1
    refine ⟨?_, ?_, ?_, ?_, ?_⟩
    · rw [gH_n (by omega), zu_n (by omega)]; exact q1
    · rw [gH_n (by omega)]; exact q2
    · rw [gH_n (by omega)]; exact q3
    · rw [gH_n (by omega)]; exact q4
    · rw [gH_n (by omega)]; exact q5
theorem inv_wo {g : Int → Int} {sc a v : Int} (s0 : 0 ≤ sc) (s1 : sc < 12) (a0 : 0 ≤ a) (a1 : a < g 1) (hv : -1 ≤ v ∧ v < g 0) (hI : Inv g) : Inv (zu g (356 + 8 * sc + a) v) := by
  have hnC := iv_nC hI
  have hnA := iv_nA hI
  have hnH := iv_nH hI
  obtain ⟨i1, i2, i3, i4, i5, i6, i7, i8, i9⟩ := hI
  refine ⟨?_, ?_, ?_, ?_, ?_, ?_, ?_, ?_, ?_⟩
  · rw [zu_n (by omega)]; exact i1
  · rw [zu_n (by omega)]; exact i2
  · rw [zu_n (by omega)]; exact i3
  · rw [zu_n (by omega)]; exact i4
  · intro m m0 m1
    rw [gS_n (by omega)]; exact i5 m m0 m1
  · rw [gS_n (by omega)]; exact i6
  · intro c2 c0 c1
    rw [zu_n (by omega)] at c1
    obtain ⟨q1, q2, q3, q4, q5, q6, q7⟩ := i7 c2 c0 c1
    refine ⟨fun m m0 m1 => ?_, ?_, ?_, ?_, ?_, ?_, fun k k0 k1 => ?_⟩
    · rw [gC_n (by omega)]; exact q1 m m0 m1
    · rw [gC_n (by omega)]; exact q2
    · rw [gC_n (by omega)]; exact q3
    · rw [gC_n (by omega)]; exact q4
    · rw [gC_n (by omega)]; exact q5
    · rw [gC_n (by omega)]; exact q6
    · rw [gC_n (by omega)] at k1
      rw [gM_n (by omega), gX_n (by omega)]; exact q7 k k0 k1
  · intro a2 a0 a1
    rw [zu_n (by omega)] at a1
    obtain ⟨q1, q2⟩ := i8 a2 a0 a1
    refine ⟨fun m m0 m1 => ?_, fun sc2 s0 s1 => ?_⟩
    · rw [gA_n (by omega)]; exact q1 m m0 m1
    · rw [zu_n (j := 0) (by omega)]
      by_cases e : sc2 = sc ∧ a2 = a
      · show -1 ≤ zu g _ v (356 + 8 * sc2 + a2) ∧ zu g _ v (356 + 8 * sc2 + a2) < g 0; rw [show 356 + 8 * sc2 + a2 = 356 + 8 * sc + a by omega, zu_s]; exact hv
      · rw [gW_n (by omega)]; exact q2 sc2 s0 s1
  · intro k k0 k1
    rw [zu_n (by omega)] at k1
    obtain ⟨q1, q2, q3, q4, q5⟩ := i9 k k0 k1
    refine ⟨?_, ?_, ?_, ?_, ?_⟩
    · rw [gH_n (by omega), zu_n (by omega)]; exact q1
    · rw [gH_n (by omega)]; exact q2
    · rw [gH_n (by omega)]; exact q3
    · rw [gH_n (by omega)]; exact q4
    · rw [gH_n (by omega)]; exact q5
theorem inv_se {g : Int → Int} {w v : Int} (w0 : 0 ≤ w) (w1 : w < 4) (hv : (w = 3 ∧ 1 ≤ v ∧ v ≤ 9) ∨ (w ≠ 3 ∧ 0 ≤ v ∧ v ≤ 20)) (hI : Inv g) : Inv (zu g (8 + w) v) := by
  have hnC := iv_nC hI
  have hnA := iv_nA hI
  have hnH := iv_nH hI
  obtain ⟨i1, i2, i3, i4, i5, i6, i7, i8, i9⟩ := hI
  refine ⟨?_, ?_, ?_, ?_, ?_, ?_, ?_, ?_, ?_⟩
  · rw [zu_n (by omega)]; exact i1
  · rw [zu_n (by omega)]; exact i2
  · rw [zu_n (by omega)]; exact i3
  · rw [zu_n (by omega)]; exact i4
  · intro m m0 m1
    by_cases e : m = w
    · subst e; show 0 ≤ zu g _ v (8 + m) ∧ zu g _ v (8 + m) ≤ 20; rw [zu_s]; omega
    · rw [gS_n (by omega)]; exact i5 m m0 m1
  · by_cases e : w = 3
    · subst e; show 1 ≤ zu g _ v (8 + 3) ∧ zu g _ v (8 + 3) ≤ 9; rw [zu_s]; omega
    · rw [gS_n (by omega)]; exact i6
  · intro c2 c0 c1
    rw [zu_n (by omega)] at c1
    obtain ⟨q1, q2, q3, q4, q5, q6, q7⟩ := i7 c2 c0 c1
    refine ⟨fun m m0 m1 => ?_, ?_, ?_, ?_, ?_, ?_, fun k k0 k1 => ?_⟩
    · rw [gC_n (by omega)]; exact q1 m m0 m1
    · rw [gC_n (by omega)]; exact q2
    · rw [gC_n (by omega)]; exact q3
    · rw [gC_n (by omega)]; exact q4
    · rw [gC_n (by omega)]; exact q5
    · rw [gC_n (by omega)]; exact q6
    · rw [gC_n (by omega)] at k1
      rw [gM_n (by omega), gX_n (by omega)]; exact q7 k k0 k1
  · intro a a0 a1
    rw [zu_n (by omega)] at a1
    obtain ⟨q1, q2⟩ := i8 a a0 a1
    refine ⟨fun m m0 m1 => ?_, fun sc s0 s1 => ?_⟩
    · rw [gA_n (by omega)]; exact q1 m m0 m1
    · rw [gW_n (by omega), zu_n (by omega)]; exact q2 sc s0 s1
  · intro k k0 k1
    rw [zu_n (by omega)] at k1
    obtain ⟨q1, q2, q3, q4, q5⟩ := i9 k k0 k1
    refine ⟨?_, ?_, ?_, ?_, ?_⟩
    · rw [gH_n (by omega), zu_n (by omega)]; exact q1
    · rw [gH_n (by omega)]; exact q2
    · rw [gH_n (by omega)]; exact q3
    · rw [gH_n (by omega)]; exact q4
    · rw [gH_n (by omega)]; exact q5
theorem inv_to {g : Int → Int} {v : Int} (hv : 0 ≤ v ∧ v ≤ 300) (hI : Inv g) : Inv (zu g (3) v) := by
  have hnC := iv_nC hI
  have hnA := iv_nA hI
  have hnH := iv_nH hI
  obtain ⟨i1, i2, i3, i4, i5, i6, i7, i8, i9⟩ := hI
  refine ⟨?_, ?_, ?_, ?_, ?_, ?_, ?_, ?_, ?_⟩
  · rw [zu_n (by omega)]; exact i1
  · rw [zu_n (by omega)]; exact i2
  · rw [zu_n (by omega)]; exact i3
  · rw [zu_s]; exact hv
  · intro m m0 m1
    rw [gS_n (by omega)]; exact i5 m m0 m1
  · rw [gS_n (by omega)]; exact i6
  · intro c2 c0 c1
    rw [zu_n (by omega)] at c1
    obtain ⟨q1, q2, q3, q4, q5, q6, q7⟩ := i7 c2 c0 c1
    refine ⟨fun m m0 m1 => ?_, ?_, ?_, ?_, ?_, ?_, fun k k0 k1 => ?_⟩
    · rw [gC_n (by omega)]; exact q1 m m0 m1
    · rw [gC_n (by omega)]; exact q2
    · rw [gC_n (by omega)]; exact q3
    · rw [gC_n (by omega)]; exact q4
    · rw [gC_n (by omega)]; exact q5
    · rw [gC_n (by omega)]; exact q6
    · rw [gC_n (by omega)] at k1
      rw [gM_n (by omega), gX_n (by omega)]; exact q7 k k0 k1
  · intro a a0 a1
    rw [zu_n (by omega)] at a1
    obtain ⟨q1, q2⟩ := i8 a a0 a1
    refine ⟨fun m m0 m1 => ?_, fun sc s0 s1 => ?_⟩
    · rw [gA_n (by omega)]; exact q1 m m0 m1
    · rw [gW_n (by omega), zu_n (by omega)]; exact q2 sc s0 s1
  · intro k k0 k1
    rw [zu_n (by omega)] at k1
    obtain ⟨q1, q2, q3, q4, q5⟩ := i9 k k0 k1
    refine ⟨?_, ?_, ?_, ?_, ?_⟩
    · rw [gH_n (by omega), zu_n (by omega)]; exact q1
    · rw [gH_n (by omega)]; exact q2
    · rw [gH_n (by omega)]; exact q3
    · rw [gH_n (by omega)]; exact q4
    · rw [gH_n (by omega)]; exact q5
theorem inv_4 {g : Int → Int} {v : Int} (hI : Inv g) : Inv (zu g (4) v) := by
  have hnC := iv_nC hI
  have hnA := iv_nA hI
  have hnH := iv_nH hI
  obtain ⟨i1, i2, i3, i4, i5, i6, i7, i8, i9⟩ := hI
  refine ⟨?_, ?_, ?_, ?_, ?_, ?_, ?_, ?_, ?_⟩
  · rw [zu_n (by omega)]; exact i1
  · rw [zu_n (by omega)]; exact i2
  · rw [zu_n (by omega)]; exact i3
  · rw [zu_n (by omega)]; exact i4
  · intro m m0 m1
    rw [gS_n (by omega)]; exact i5 m m0 m1
  · rw [gS_n (by omega)]; exact i6
  · intro c2 c0 c1
    rw [zu_n (by omega)] at c1
    obtain ⟨q1, q2, q3, q4, q5, q6, q7⟩ := i7 c2 c0 c1
    refine ⟨fun m m0 m1 => ?_, ?_, ?_, ?_, ?_, ?_, fun k k0 k1 => ?_⟩
    · rw [gC_n (by omega)]; exact q1 m m0 m1
    · rw [gC_n (by omega)]; exact q2
    · rw [gC_n (by omega)]; exact q3
    · rw [gC_n (by omega)]; exact q4
    · rw [gC_n (by omega)]; exact q5
    · rw [gC_n (by omega)]; exact q6
    · rw [gC_n (by omega)] at k1
      rw [gM_n (by omega), gX_n (by omega)]; exact q7 k k0 k1
  · intro a a0 a1
    rw [zu_n (by omega)] at a1
    obtain ⟨q1, q2⟩ := i8 a a0 a1
    refine ⟨fun m m0 m1 => ?_, fun sc s0 s1 => ?_⟩
    · rw [gA_n (by omega)]; exact q1 m m0 m1
    · rw [gW_n (by omega), zu_n (by omega)]; exact q2 sc s0 s1
  · intro k k0 k1
    rw [zu_n (by omega)] at k1
    obtain ⟨q1, q2, q3, q4, q5⟩ := i9 k k0 k1
    refine ⟨?_, ?_, ?_, ?_, ?_⟩
    · rw [gH_n (by omega), zu_n (by omega)]; exact q1
    · rw [gH_n (by omega)]; exact q2
    · rw [gH_n (by omega)]; exact q3
    · rw [gH_n (by omega)]; exact q4
    · rw [gH_n (by omega)]; exact q5
theorem inv_5 {g : Int → Int} {v : Int} (hI : Inv g) : Inv (zu g (5) v) := by
  have hnC := iv_nC hI
  have hnA := iv_nA hI
  have hnH := iv_nH hI
  obtain ⟨i1, i2, i3, i4, i5, i6, i7, i8, i9⟩ := hI
  refine ⟨?_, ?_, ?_, ?_, ?_, ?_, ?_, ?_, ?_⟩
  · rw [zu_n (by omega)]; exact i1
  · rw [zu_n (by omega)]; exact i2
  · rw [zu_n (by omega)]; exact i3
  · rw [zu_n (by omega)]; exact i4
  · intro m m0 m1
    rw [gS_n (by omega)]; exact i5 m m0 m1
  · rw [gS_n (by omega)]; exact i6
  · intro c2 c0 c1
    rw [zu_n (by omega)] at c1
    obtain ⟨q1, q2, q3, q4, q5, q6, q7⟩ := i7 c2 c0 c1
    refine ⟨fun m m0 m1 => ?_, ?_, ?_, ?_, ?_, ?_, fun k k0 k1 => ?_⟩
    · rw [gC_n (by omega)]; exact q1 m m0 m1
    · rw [gC_n (by omega)]; exact q2
    · rw [gC_n (by omega)]; exact q3
    · rw [gC_n (by omega)]; exact q4
    · rw [gC_n (by omega)]; exact q5
    · rw [gC_n (by omega)]; exact q6
    · rw [gC_n (by omega)] at k1
      rw [gM_n (by omega), gX_n (by omega)]; exact q7 k k0 k1
  · intro a a0 a1
    rw [zu_n (by omega)] at a1
    obtain ⟨q1, q2⟩ := i8 a a0 a1
    refine ⟨fun m m0 m1 => ?_, fun sc s0 s1 => ?_⟩
    · rw [gA_n (by omega)]; exact q1 m m0 m1
    · rw [gW_n (by omega), zu_n (by omega)]; exact q2 sc s0 s1
  · intro k k0 k1
    rw [zu_n (by omega)] at k1
    obtain ⟨q1, q2, q3, q4, q5⟩ := i9 k k0 k1
    refine ⟨?_, ?_, ?_, ?_, ?_⟩
    · rw [gH_n (by omega), zu_n (by omega)]; exact q1
    · rw [gH_n (by omega)]; exact q2
    · rw [gH_n (by omega)]; exact q3
    · rw [gH_n (by omega)]; exact q4
    · rw [gH_n (by omega)]; exact q5
theorem inv_6 {g : Int → Int} {v : Int} (hI : Inv g) : Inv (zu g (6) v) := by
  have hnC := iv_nC hI
  have hnA := iv_nA hI
  have hnH := iv_nH hI
  obtain ⟨i1, i2, i3, i4, i5, i6, i7, i8, i9⟩ := hI
  refine ⟨?_, ?_, ?_, ?_, ?_, ?_, ?_, ?_, ?_⟩
  · rw [zu_n (by omega)]; exact i1
  · rw [zu_n (by omega)]; exact i2
  · rw [zu_n (by omega)]; exact i3
  · rw [zu_n (by omega)]; exact i4
  · intro m m0 m1
    rw [gS_n (by omega)]; exact i5 m m0 m1
  · rw [gS_n (by omega)]; exact i6
  · intro c2 c0 c1
    rw [zu_n (by omega)] at c1
    obtain ⟨q1, q2, q3, q4, q5, q6, q7⟩ := i7 c2 c0 c1
    refine ⟨fun m m0 m1 => ?_, ?_, ?_, ?_, ?_, ?_, fun k k0 k1 => ?_⟩
    · rw [gC_n (by omega)]; exact q1 m m0 m1
    · rw [gC_n (by omega)]; exact q2
    · rw [gC_n (by omega)]; exact q3
    · rw [gC_n (by omega)]; exact q4
    · rw [gC_n (by omega)]; exact q5
    · rw [gC_n (by omega)]; exact q6
    · rw [gC_n (by omega)] at k1
      rw [gM_n (by omega), gX_n (by omega)]; exact q7 k k0 k1
  · intro a a0 a1
    rw [zu_n (by omega)] at a1
    obtain ⟨q1, q2⟩ := i8 a a0 a1
    refine ⟨fun m m0 m1 => ?_, fun sc s0 s1 => ?_⟩
    · rw [gA_n (by omega)]; exact q1 m m0 m1
    · rw [gW_n (by omega), zu_n (by omega)]; exact q2 sc s0 s1
  · intro k k0 k1
    rw [zu_n (by omega)] at k1
    obtain ⟨q1, q2, q3, q4, q5⟩ := i9 k k0 k1
    refine ⟨?_, ?_, ?_, ?_, ?_⟩
    · rw [gH_n (by omega), zu_n (by omega)]; exact q1
    · rw [gH_n (by omega)]; exact q2
    · rw [gH_n (by omega)]; exact q3
    · rw [gH_n (by omega)]; exact q4
    · rw [gH_n (by omega)]; exact q5
theorem inv_7 {g : Int → Int} {v : Int} (hI : Inv g) : Inv (zu g (7) v) := by
  have hnC := iv_nC hI
  have hnA := iv_nA hI
  have hnH := iv_nH hI
  obtain ⟨i1, i2, i3, i4, i5, i6, i7, i8, i9⟩ := hI
  refine ⟨?_, ?_, ?_, ?_, ?_, ?_, ?_, ?_, ?_⟩
  · rw [zu_n (by omega)]; exact i1
  · rw [zu_n (by omega)]; exact i2
  · rw [zu_n (by omega)]; exact i3
  · rw [zu_n (by omega)]; exact i4
  · intro m m0 m1
    rw [gS_n (by omega)]; exact i5 m m0 m1
  · rw [gS_n (by omega)]; exact i6
  · intro c2 c0 c1
    rw [zu_n (by omega)] at c1
    obtain ⟨q1, q2, q3, q4, q5, q6, q7⟩ := i7 c2 c0 c1
    refine ⟨fun m m0 m1 => ?_, ?_, ?_, ?_, ?_, ?_, fun k k0 k1 => ?_⟩
    · rw [gC_n (by omega)]; exact q1 m m0 m1
    · rw [gC_n (by omega)]; exact q2
    · rw [gC_n (by omega)]; exact q3
    · rw [gC_n (by omega)]; exact q4
    · rw [gC_n (by omega)]; exact q5
    · rw [gC_n (by omega)]; exact q6
    · rw [gC_n (by omega)] at k1
      rw [gM_n (by omega), gX_n (by omega)]; exact q7 k k0 k1
  · intro a a0 a1
    rw [zu_n (by omega)] at a1
    obtain ⟨q1, q2⟩ := i8 a a0 a1
    refine ⟨fun m m0 m1 => ?_, fun sc s0 s1 => ?_⟩
    · rw [gA_n (by omega)]; exact q1 m m0 m1
    · rw [gW_n (by omega), zu_n (by omega)]; exact q2 sc s0 s1
  · intro k k0 k1
    rw [zu_n (by omega)] at k1
    obtain ⟨q1, q2, q3, q4, q5⟩ := i9 k k0 k1
    refine ⟨?_, ?_, ?_, ?_, ?_⟩
    · rw [gH_n (by omega), zu_n (by omega)]; exact q1
    · rw [gH_n (by omega)]; exact q2
    · rw [gH_n (by omega)]; exact q3
    · rw [gH_n (by omega)]; exact q4
    · rw [gH_n (by omega)]; exact q5
theorem inv_h2 {g : Int → Int} {k v : Int} (k0 : 0 ≤ k) (k1 : k < g 2) (hv : 1 ≤ v ∧ v ≤ 60) (hI : Inv g) : Inv (zu g (452 + 5 * k + 2) v) := by
  have hnC := iv_nC hI
  have hnA := iv_nA hI
  have hnH := iv_nH hI
  obtain ⟨i1, i2, i3, i4, i5, i6, i7, i8, i9⟩ := hI
  refine ⟨?_, ?_, ?_, ?_, ?_, ?_, ?_, ?_, ?_⟩
  · rw [zu_n (by omega)]; exact i1
  · rw [zu_n (by omega)]; exact i2
  · rw [zu_n (by omega)]; exact i3
  · rw [zu_n (by omega)]; exact i4
  · intro m m0 m1
    rw [gS_n (by omega)]; exact i5 m m0 m1
  · rw [gS_n (by omega)]; exact i6
  · intro c2 c0 c1
    rw [zu_n (by omega)] at c1
    obtain ⟨q1, q2, q3, q4, q5, q6, q7⟩ := i7 c2 c0 c1
    refine ⟨fun m m0 m1 => ?_, ?_, ?_, ?_, ?_, ?_, fun k k0 k1 => ?_⟩
    · rw [gC_n (by omega)]; exact q1 m m0 m1
    · rw [gC_n (by omega)]; exact q2
    · rw [gC_n (by omega)]; exact q3
    · rw [gC_n (by omega)]; exact q4
    · rw [gC_n (by omega)]; exact q5
    · rw [gC_n (by omega)]; exact q6
    · rw [gC_n (by omega)] at k1
      rw [gM_n (by omega), gX_n (by omega)]; exact q7 k k0 k1
  · intro a a0 a1
    rw [zu_n (by omega)] at a1
    obtain ⟨q1, q2⟩ := i8 a a0 a1
    refine ⟨fun m m0 m1 => ?_, fun sc s0 s1 => ?_⟩
    · rw [gA_n (by omega)]; exact q1 m m0 m1
    · rw [gW_n (by omega), zu_n (by omega)]; exact q2 sc s0 s1
  · intro k2 k0 k1
    rw [zu_n (by omega)] at k1
    obtain ⟨q1, q2, q3, q4, q5⟩ := i9 k2 k0 k1
    refine ⟨?_, ?_, ?_, ?_, ?_⟩
    · rw [gH_n (by omega), zu_n (by omega)]; exact q1
    · rw [gH_n (by omega)]; exact q2
    · by_cases e : k2 = k
      · subst e; show _ ≤ zu g _ v (452 + 5 * k2 + 2) ∧ zu g _ v (452 + 5 * k2 + 2) ≤ _; rw [zu_s]; exact hv
      · rw [gH_n (by omega)]; exact q3
    · rw [gH_n (by omega)]; exact q4
    · rw [gH_n (by omega)]; exact q5
theorem inv_h3 {g : Int → Int} {k v : Int} (k0 : 0 ≤ k) (k1 : k < g 2) (hv : 0 ≤ v ∧ v ≤ 3000) (hI : Inv g) : Inv (zu g (452 + 5 * k + 3) v) := by
  have hnC := iv_nC hI
  have hnA := iv_nA hI
  have hnH := iv_nH hI
  obtain ⟨i1, i2, i3, i4, i5, i6, i7, i8, i9⟩ := hI
  refine ⟨?_, ?_, ?_, ?_, ?_, ?_, ?_, ?_, ?_⟩
  · rw [zu_n (by omega)]; exact i1
  · rw [zu_n (by omega)]; exact i2
  · rw [zu_n (by omega)]; exact i3
  · rw [zu_n (by omega)]; exact i4
  · intro m m0 m1
    rw [gS_n (by omega)]; exact i5 m m0 m1
  · rw [gS_n (by omega)]; exact i6
  · intro c2 c0 c1
    rw [zu_n (by omega)] at c1
    obtain ⟨q1, q2, q3, q4, q5, q6, q7⟩ := i7 c2 c0 c1
    refine ⟨fun m m0 m1 => ?_, ?_, ?_, ?_, ?_, ?_, fun k k0 k1 => ?_⟩
    · rw [gC_n (by omega)]; exact q1 m m0 m1
    · rw [gC_n (by omega)]; exact q2
    · rw [gC_n (by omega)]; exact q3
    · rw [gC_n (by omega)]; exact q4
    · rw [gC_n (by omega)]; exact q5
    · rw [gC_n (by omega)]; exact q6
    · rw [gC_n (by omega)] at k1
      rw [gM_n (by omega), gX_n (by omega)]; exact q7 k k0 k1
  · intro a a0 a1
    rw [zu_n (by omega)] at a1
    obtain ⟨q1, q2⟩ := i8 a a0 a1
    refine ⟨fun m m0 m1 => ?_, fun sc s0 s1 => ?_⟩
    · rw [gA_n (by omega)]; exact q1 m m0 m1
    · rw [gW_n (by omega), zu_n (by omega)]; exact q2 sc s0 s1
  · intro k2 k0 k1
    rw [zu_n (by omega)] at k1
    obtain ⟨q1, q2, q3, q4, q5⟩ := i9 k2 k0 k1
    refine ⟨?_, ?_, ?_, ?_, ?_⟩
    · rw [gH_n (by omega), zu_n (by omega)]; exact q1
    · rw [gH_n (by omega)]; exact q2
    · rw [gH_n (by omega)]; exact q3
    · by_cases e : k2 = k
      · subst e; show _ ≤ zu g _ v (452 + 5 * k2 + 3) ∧ zu g _ v (452 + 5 * k2 + 3) ≤ _; rw [zu_s]; exact hv
      · rw [gH_n (by omega)]; exact q4
    · rw [gH_n (by omega)]; exact q5
/-! additions -/
def mkC (g : Int → Int) (ch wa le al co sh : Int) : Int → Int := fun i => if i = 0 then g 0 + 1 else if i = 12 + 20 * g 0 then ch else if i = 13 + 20 * g 0 then wa else if i = 14 + 20 * g 0 then le else if i = 15 + 20 * g 0 then al else if i = 16 + 20 * g 0 then co else if i = 17 + 20 * g 0 then sh else if 18 + 20 * g 0 ≤ i ∧ i < 32 + 20 * g 0 then 0 else g i
def mkA (g : Int → Int) (ch wa le : Int) : Int → Int := fun i => if i = 1 then g 1 + 1 else if i = 332 + 3 * g 1 then ch else if i = 333 + 3 * g 1 then wa else if i = 334 + 3 * g 1 then le else if 356 ≤ i ∧ i < 452 ∧ (i - 356 - g 1) % 8 = 0 then -1 else g i
def mkH (g : Int → Int) (c f n fee r : Int) : Int → Int := fun i => if i = 2 then g 2 + 1 else if i = 452 + 5 * g 2 then c else if i = 453 + 5 * g 2 then f else if i = 454 + 5 * g 2 then n else if i = 455 + 5 * g 2 then fee else if i = 456 + 5 * g 2 then r else g i
section MK
variable {g : Int → Int}
theorem mkC_o {ch wa le al co sh i : Int} (hn : 0 ≤ g 0) (h : i ≠ 0) (h2 : i < 12 + 20 * g 0 ∨ 32 + 20 * g 0 ≤ i) : mkC g ch wa le al co sh i = g i := by
  unfold mkC
  rw [if_neg h, if_neg (by omega), if_neg (by omega), if_neg (by omega), if_neg (by omega), if_neg (by omega), if_neg (by omega), if_neg (by omega)]
theorem mkC_0 {ch wa le al co sh : Int} : mkC g ch wa le al co sh 0 = g 0 + 1 := if_pos rfl
theorem mkC_k {ch wa le al co sh p : Int} (hn : 0 ≤ g 0) (p0 : 0 ≤ p) (p1 : p < 20) : gC (mkC g ch wa le al co sh) (g 0) p = if p = 0 then ch else if p = 1 then wa else if p = 2 then le else if p = 3 then al else if p = 4 then co else if p = 5 then sh else 0 := by
  unfold gC mkC
  rw [if_neg (by omega)]
  rcases (show p = 0 ∨ p = 1 ∨ p = 2 ∨ p = 3 ∨ p = 4 ∨ p = 5 ∨ 6 ≤ p by omega) with e | e | e | e | e | e | e
  · subst e; rw [if_pos (by omega), if_pos rfl]
  · subst e; rw [if_neg (by omega), if_pos (by omega), if_neg (by decide), if_pos rfl]
  · subst e; rw [if_neg (by omega), if_neg (by omega), if_pos (by omega), if_neg (by decide), if_neg (by decide), if_pos rfl]
  · subst e; rw [if_neg (by omega), if_neg (by omega), if_neg (by omega), if_pos (by omega), if_neg (by decide), if_neg (by decide), if_neg (by decide), if_pos rfl]
  · subst e; rw [if_neg (by omega), if_neg (by omega), if_neg (by omega), if_neg (by omega), if_pos (by omega), if_neg (by decide), if_neg (by decide), if_neg (by decide), if_neg (by decide), if_pos rfl]
  · subst e; rw [if_neg (by omega), if_neg (by omega), if_neg (by omega), if_neg (by omega), if_neg (by omega), if_pos (by omega), if_neg (by decide), if_neg (by decide), if_neg (by decide), if_neg (by decide), if_neg (by decide), if_pos rfl]
  · rw [if_neg (by omega), if_neg (by omega), if_neg (by omega), if_neg (by omega), if_neg (by omega), if_neg (by omega), if_pos (by omega), if_neg (by omega), if_neg (by omega), if_neg (by omega), if_neg (by omega), if_neg (by omega), if_neg (by omega)]
theorem mkC_c {ch wa le al co sh c p : Int} (hn : 0 ≤ g 0) (c0 : 0 ≤ c) (c1 : c < g 0) (p0 : 0 ≤ p) (p1 : p < 20) : gC (mkC g ch wa le al co sh) c p = gC g c p := mkC_o hn (by omega) (by omega)
theorem mkA_o {ch wa le i : Int} (hn : 0 ≤ g 1) (h : i ≠ 1) (h2 : i < 332 + 3 * g 1 ∨ 335 + 3 * g 1 ≤ i) (h3 : i < 356 ∨ 452 ≤ i ∨ (i - 356 - g 1) % 8 ≠ 0) : mkA g ch wa le i = g i := by
  unfold mkA
  rw [if_neg h, if_neg (by omega), if_neg (by omega), if_neg (by omega), if_neg (by omega)]
theorem mkA_1 {ch wa le : Int} : mkA g ch wa le 1 = g 1 + 1 := if_pos rfl
theorem mkA_m {ch wa le p : Int} (hn : 0 ≤ g 1) (p0 : 0 ≤ p) (p1 : p < 3) : gA (mkA g ch wa le) (g 1) p = if p = 0 then ch else if p = 1 then wa else le := by
  unfold gA mkA
  rw [if_neg (by omega)]
  rcases (show p = 0 ∨ p = 1 ∨ p = 2 by omega) with e | e | e
  · subst e; rw [if_pos (by omega), if_pos rfl]
  · subst e; rw [if_neg (by omega), if_pos (by omega), if_neg (by decide), if_pos rfl]
  · subst e; rw [if_neg (by omega), if_neg (by omega), if_pos (by omega), if_neg (by decide), if_neg (by decide)]
theorem mkA_w {ch wa le sc : Int} (hn : 0 ≤ g 1) (hn8 : g 1 < 8) (s0 : 0 ≤ sc) (s1 : sc < 12) : gW (mkA g ch wa le) sc (g 1) = -1 := by
  unfold gW mkA
  rw [if_neg (by omega), if_neg (by omega), if_neg (by omega), if_neg (by omega), if_pos (by omega)]
theorem mkH_o {c f n fee r i : Int} (hn : 0 ≤ g 2) (h : i ≠ 2) (h2 : i < 452 + 5 * g 2 ∨ 457 + 5 * g 2 ≤ i) : mkH g c f n fee r i = g i := by
  unfold mkH
  rw [if_neg h, if_neg (by omega), if_neg (by omega), if_neg (by omega), if_neg (by omega), if_neg (by omega)]
theorem mkH_2 {c f n fee r : Int} : mkH g c f n fee r 2 = g 2 + 1 := if_pos rfl
theorem mkH_k {c f n fee r : Int} (hn : 0 ≤ g 2) : gH (mkH g c f n fee r) (g 2) 0 = c ∧ gH (mkH g c f n fee r) (g 2) 1 = f ∧ gH (mkH g c f n fee r) (g 2) 2 = n ∧ gH (mkH g c f n fee r) (g 2) 3 = fee ∧ gH (mkH g c f n fee r) (g 2) 4 = r := by
  unfold gH mkH
  refine ⟨?_, ?_, ?_, ?_, ?_⟩
  · rw [if_neg (by omega), if_pos (by omega)]
  · rw [if_neg (by omega), if_neg (by omega), if_pos (by omega)]
  · rw [if_neg (by omega), if_neg (by omega), if_neg (by omega), if_pos (by omega)]
  · rw [if_neg (by omega), if_neg (by omega), if_neg (by omega), if_neg (by omega), if_pos (by omega)]
  · rw [if_neg (by omega), if_neg (by omega), if_neg (by omega), if_neg (by omega), if_neg (by omega), if_pos (by omega)]
theorem inv_mkC {ch wa le al co sh : Int} (hI : Inv g) (hn : g 0 < 16) (h1 : 40 ≤ ch ∧ ch ≤ 200) (h2 : 40 ≤ wa ∧ wa ≤ 200) (h3 : 40 ≤ le ∧ le ≤ 200) (h4 : 0 ≤ al ∧ al ≤ 8) (h5 : 0 ≤ co ∧ co ≤ 3) (h6 : 0 ≤ sh ∧ sh ≤ 1) : Inv (mkC g ch wa le al co sh) := by
  have hnC := iv_nC hI
  have hnA := iv_nA hI
  have hnH := iv_nH hI
  obtain ⟨i1, i2, i3, i4, i5, i6, i7, i8, i9⟩ := hI
  have o : ∀ i : Int, i ≠ 0 → (i < 12 ∨ 332 ≤ i) → mkC g ch wa le al co sh i = g i := fun i h h2 => mkC_o (by omega) h (by omega)
  refine ⟨by rw [mkC_0]; omega, by rw [o 1 (by decide) (by decide)]; exact i2, by rw [o 2 (by decide) (by decide)]; exact i3, by rw [o 3 (by decide) (by decide)]; exact i4, fun m m0 m1 => ?_, ?_, fun c c0 c1 => ?_, fun a a0 a1 => ?_, fun k k0 k1 => ?_⟩
  · unfold gS; rw [o _ (by omega) (by omega)]; exact i5 m m0 m1
  · unfold gS; rw [o _ (by omega) (by omega)]; exact i6
  · rw [mkC_0] at c1
    rcases Int.lt_or_le c (g 0) with z | z
    · obtain ⟨q1, q2, q3, q4, q5, q6, q7⟩ := i7 c c0 z
      have e : ∀ p : Int, 0 ≤ p → p < 20 → gC (mkC g ch wa le al co sh) c p = gC g c p := fun p p0 p1 => mkC_c (by omega) c0 z p0 p1
      refine ⟨fun m m0 m1 => by rw [e m m0 (by omega)]; exact q1 m m0 m1, by rw [e 3 (by decide) (by decide)]; exact q2, by rw [e 4 (by decide) (by decide)]; exact q3, by rw [e 5 (by decide) (by decide)]; exact q4, by rw [e 6 (by decide) (by decide)]; exact q5, by rw [e 7 (by decide) (by decide)]; exact q6, fun k k0 k1 => ?_⟩
      rw [e 7 (by decide) (by decide)] at k1
      unfold gM gX
      rw [e _ (by omega) (by omega), e _ (by omega) (by omega)]
      exact q7 k k0 k1
    · have ec : c = g 0 := by omega
      subst ec
      have e : ∀ p : Int, 0 ≤ p → p < 20 → gC (mkC g ch wa le al co sh) (g 0) p = _ := fun p p0 p1 => mkC_k (by omega) p0 p1
      refine ⟨fun m m0 m1 => ?_, by rw [e 3 (by decide) (by decide)]; exact h4, by rw [e 4 (by decide) (by decide)]; exact h5, by rw [e 5 (by decide) (by decide)]; exact h6, by rw [e 6 (by decide) (by decide)]; show (0 : Int) ≤ 0 ∧ (0 : Int) ≤ 9; decide, by rw [e 7 (by decide) (by decide)]; show (0 : Int) ≤ 0 ∧ (0 : Int) ≤ 6; decide, fun k k0 k1 => ?_⟩
      · rw [e m m0 (by omega)]
        rcases (show m = 0 ∨ m = 1 ∨ m = 2 by omega) with z | z | z <;> subst z
        · exact h1
        · exact h2
        · exact h3
      · rw [e 7 (by decide) (by decide), show (if (7 : Int) = 0 then ch else if (7 : Int) = 1 then wa else if (7 : Int) = 2 then le else if (7 : Int) = 3 then al else if (7 : Int) = 4 then co else if (7 : Int) = 5 then sh else 0) = 0 from rfl] at k1
        omega
  · rw [o 1 (by decide) (by decide)] at a1
    obtain ⟨q1, q2⟩ := i8 a a0 a1
    refine ⟨fun m m0 m1 => ?_, fun sc s0 s1 => ?_⟩
    · unfold gA; rw [o _ (by omega) (by omega)]; exact q1 m m0 m1
    · have := q2 sc s0 s1
      rw [mkC_0]
      unfold gW at this ⊢; rw [o _ (by omega) (by omega)]; omega
  · rw [o 2 (by decide) (by decide)] at k1
    obtain ⟨q1, q2, q3, q4, q5⟩ := i9 k k0 k1
    rw [mkC_0]
    unfold gH at q1 q2 q3 q4 q5 ⊢
    rw [o _ (by omega) (by omega), o _ (by omega) (by omega), o _ (by omega) (by omega), o _ (by omega) (by omega), o _ (by omega) (by omega)]
    exact ⟨by omega, q2, q3, q4, q5⟩
theorem inv_mkA {ch wa le : Int} (hI : Inv g) (hn : g 1 < 8) (h1 : 40 ≤ ch ∧ ch ≤ 200) (h2 : 40 ≤ wa ∧ wa ≤ 200) (h3 : 40 ≤ le ∧ le ≤ 200) : Inv (mkA g ch wa le) := by
  have hnC := iv_nC hI
  have hnA := iv_nA hI
  have hnH := iv_nH hI
  obtain ⟨i1, i2, i3, i4, i5, i6, i7, i8, i9⟩ := hI
  have o : ∀ i : Int, i ≠ 1 → (i < 332 ∨ 452 ≤ i) → mkA g ch wa le i = g i := fun i h h2 => mkA_o (by omega) h (by omega) (by omega)
  refine ⟨by rw [o 0 (by decide) (by decide)]; exact i1, by rw [mkA_1]; omega, by rw [o 2 (by decide) (by decide)]; exact i3, by rw [o 3 (by decide) (by decide)]; exact i4, fun m m0 m1 => ?_, ?_, fun c c0 c1 => ?_, fun a a0 a1 => ?_, fun k k0 k1 => ?_⟩
  · unfold gS; rw [o _ (by omega) (by omega)]; exact i5 m m0 m1
  · unfold gS; rw [o _ (by omega) (by omega)]; exact i6
  · rw [o 0 (by decide) (by decide)] at c1
    obtain ⟨q1, q2, q3, q4, q5, q6, q7⟩ := i7 c c0 c1
    have e : ∀ p : Int, 0 ≤ p → p < 20 → gC (mkA g ch wa le) c p = gC g c p := fun p p0 p1 => o _ (by omega) (by omega)
    refine ⟨fun m m0 m1 => by rw [e m m0 (by omega)]; exact q1 m m0 m1, by rw [e 3 (by decide) (by decide)]; exact q2, by rw [e 4 (by decide) (by decide)]; exact q3, by rw [e 5 (by decide) (by decide)]; exact q4, by rw [e 6 (by decide) (by decide)]; exact q5, by rw [e 7 (by decide) (by decide)]; exact q6, fun k k0 k1 => ?_⟩
    rw [e 7 (by decide) (by decide)] at k1
    unfold gM gX
    rw [e _ (by omega) (by omega), e _ (by omega) (by omega)]
    exact q7 k k0 k1
  · rw [mkA_1] at a1
    rw [o 0 (by decide) (by decide)]
    rcases Int.lt_or_le a (g 1) with z | z
    · obtain ⟨q1, q2⟩ := i8 a a0 z
      refine ⟨fun m m0 m1 => ?_, fun sc s0 s1 => ?_⟩
      · have h := q1 m m0 m1
        unfold gA at h ⊢; rw [mkA_o (by omega) (by omega) (by omega) (by omega)]; exact h
      · have h := q2 sc s0 s1
        unfold gW at h ⊢; rw [mkA_o (by omega) (by omega) (by omega) (by omega)]; exact h
    · have e : a = g 1 := by omega
      subst e
      refine ⟨fun m m0 m1 => ?_, fun sc s0 s1 => ?_⟩
      · rw [mkA_m (by omega) m0 m1]
        rcases (show m = 0 ∨ m = 1 ∨ m = 2 by omega) with z | z | z <;> subst z
        · exact h1
        · exact h2
        · exact h3
      · rw [mkA_w (by omega) hn s0 s1]; omega
  · rw [o 2 (by decide) (by decide)] at k1
    obtain ⟨q1, q2, q3, q4, q5⟩ := i9 k k0 k1
    rw [o 0 (by decide) (by decide)]
    unfold gH at q1 q2 q3 q4 q5 ⊢
    rw [o _ (by omega) (by omega), o _ (by omega) (by omega), o _ (by omega) (by omega), o _ (by omega) (by omega), o _ (by omega) (by omega)]
    exact ⟨q1, q2, q3, q4, q5⟩
theorem inv_mkH {c f n fee r : Int} (hI : Inv g) (hn : g 2 < 24) (h1 : 0 ≤ c ∧ c < g 0) (h2 : 0 ≤ f ∧ f ≤ 300) (h3 : 1 ≤ n ∧ n ≤ 60) (h4 : 0 ≤ fee ∧ fee ≤ 3000) (h5 : 1 ≤ r ∧ r ≤ 50) : Inv (mkH g c f n fee r) := by
  have hnC := iv_nC hI
  have hnA := iv_nA hI
  have hnH := iv_nH hI
  obtain ⟨i1, i2, i3, i4, i5, i6, i7, i8, i9⟩ := hI
  have o : ∀ i : Int, i ≠ 2 → i < 452 → mkH g c f n fee r i = g i := fun i h h2 => mkH_o (by omega) h (by omega)
  refine ⟨by rw [o 0 (by decide) (by decide)]; exact i1, by rw [o 1 (by decide) (by decide)]; exact i2, by rw [mkH_2]; omega, by rw [o 3 (by decide) (by decide)]; exact i4, fun m m0 m1 => ?_, ?_, fun c2 c0 c1 => ?_, fun a a0 a1 => ?_, fun k k0 k1 => ?_⟩
  · unfold gS; rw [o _ (by omega) (by omega)]; exact i5 m m0 m1
  · unfold gS; rw [o _ (by omega) (by omega)]; exact i6
  · rw [o 0 (by decide) (by decide)] at c1
    obtain ⟨q1, q2, q3, q4, q5, q6, q7⟩ := i7 c2 c0 c1
    have e : ∀ p : Int, 0 ≤ p → p < 20 → gC (mkH g c f n fee r) c2 p = gC g c2 p := fun p p0 p1 => o _ (by omega) (by omega)
    refine ⟨fun m m0 m1 => by rw [e m m0 (by omega)]; exact q1 m m0 m1, by rw [e 3 (by decide) (by decide)]; exact q2, by rw [e 4 (by decide) (by decide)]; exact q3, by rw [e 5 (by decide) (by decide)]; exact q4, by rw [e 6 (by decide) (by decide)]; exact q5, by rw [e 7 (by decide) (by decide)]; exact q6, fun k k0 k1 => ?_⟩
    rw [e 7 (by decide) (by decide)] at k1
    unfold gM gX
    rw [e _ (by omega) (by omega), e _ (by omega) (by omega)]
    exact q7 k k0 k1
  · rw [o 1 (by decide) (by decide)] at a1
    rw [o 0 (by decide) (by decide)]
    obtain ⟨q1, q2⟩ := i8 a a0 a1
    refine ⟨fun m m0 m1 => ?_, fun sc s0 s1 => ?_⟩
    · have h := q1 m m0 m1
      unfold gA at h ⊢; rw [o _ (by omega) (by omega)]; exact h
    · have h := q2 sc s0 s1
      unfold gW at h ⊢; rw [o _ (by omega) (by omega)]; exact h
  · rw [mkH_2] at k1
    rw [o 0 (by decide) (by decide)]
    rcases Int.lt_or_le k (g 2) with z | z
    · have h := i9 k k0 z
      unfold gH at h ⊢
      rw [mkH_o (by omega) (by omega) (by omega), mkH_o (by omega) (by omega) (by omega), mkH_o (by omega) (by omega) (by omega), mkH_o (by omega) (by omega) (by omega), mkH_o (by omega) (by omega) (by omega)]
      exact h
    · have e : k = g 2 := by omega
      subst e
      obtain ⟨e0, e1, e2, e3, e4⟩ := mkH_k (g := g) (c := c) (f := f) (n := n) (fee := fee) (r := r) (by omega)
      rw [e0, e1, e2, e3, e4]
      exact ⟨h1, h2, h3, h4, h5⟩
end MK

