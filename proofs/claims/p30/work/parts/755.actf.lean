/-! every act: its refusals, what it answers, the state behind it -/
def okE (e : Int) : Prop := e = 0 ∨ e = -2001 ∨ e = -2002 ∨ e = -2003
theorem okE_t {P : Prop} {a b : Int} (ha : okE a) (hb : okE b) : okE (tif P a b) := by
  rcases Classical.em P with q | q
  · rw [tif_t q]; exact ha
  · rw [tif_f q]; exact hb
theorem ok0 : okE 0 := Or.inl rfl
theorem ok1 : okE (-2001) := Or.inr (Or.inl rfl)
theorem ok2 : okE (-2002) := Or.inr (Or.inr (Or.inl rfl))
theorem ok3 : okE (-2003) := Or.inr (Or.inr (Or.inr rfl))
def AF (E A : Int) (G : Int → Int) : Prop := okE E ∧ (E = 0 → SI G ∧ -2000 ≤ A ∧ A ≤ 100000)
section AFS
variable {g : Int → Int}
theorem af_addC (hS : SI g) (a b c d e : Int) : AF (eAddC g a b c d e) (g 0) (mkC g a b c d e 0) := by
  have hn := iv_nC hS.1
  exact ⟨okE_t (okE_t ok0 ok3) ok1, fun h => ⟨si_addC hS h, by omega, by omega⟩⟩
theorem af_addA (hS : SI g) (a b c : Int) : AF (eAddA g a b c) (g 1) (mkA g a b c) := by
  have hn := iv_nA hS.1
  exact ⟨okE_t (okE_t ok0 ok3) ok1, fun h => ⟨si_addA hS h, by omega, by omega⟩⟩
theorem af_col (hS : SI g) (c v : Int) : AF (eCol g c v) (gC g c 5) (zu g (12 + 20 * c + 5) v) := by
  refine ⟨okE_t ok0 ok1, fun h => ?_⟩
  obtain ⟨p, _⟩ := tif_0 h (by decide)
  have hc := iv_cl hS.1 p.1.1 p.1.2
  exact ⟨si_col hS h, by omega, by omega⟩
theorem af_set (hS : SI g) (i v : Int) : AF (eSet i v) (gS g i) (zu g (8 + i) v) := by
  refine ⟨okE_t ok0 ok1, fun h => ?_⟩
  obtain ⟨p, _⟩ := tif_0 h (by decide)
  have hb : 0 ≤ gS g i ∧ gS g i ≤ 20 := by
    rcases p with p | p
    · have := iv_dl hS.1
      rw [p.1]
      omega
    · exact iv_es hS.1 p.1.1 (by omega)
  exact ⟨si_set hS h, by omega, by omega⟩
theorem af_alt (hS : SI g) (c m d : Int) : AF (eAlt g c m d) (10 + 5 * zabs d) (zu (altG g c m d) 4 (g 4 + (10 + 5 * zabs d))) := by
  refine ⟨okE_t (okE_t (okE_t ok0 ok3) ok2) ok1, fun h => ?_⟩
  obtain ⟨p, _⟩ := tif_0 h (by decide)
  have hz := zabs_bd (a := d) (n := 10) p.2.2.1
  exact ⟨si_alt hS h, by omega, by omega⟩
theorem af_unp (hS : SI g) (c : Int) : AF (eUnp g c) (5 + 2 * zabs (gX g c (gC g c 7 - 1))) (zu (zu g (12 + 20 * c + 7) (gC g c 7 - 1)) 4 (g 4 + (5 + 2 * zabs (gX g c (gC g c 7 - 1))))) := by
  refine ⟨okE_t (okE_t ok0 ok2) ok1, fun h => ?_⟩
  obtain ⟨p, h2⟩ := tif_0 h (by decide)
  obtain ⟨q, _⟩ := tif_0 h2 (by decide)
  have hq := q.2
  have hz := zabs_bd (a := gX g c (gC g c 7 - 1)) (n := 10) (iv_ac hS.1 p.1 p.2 (by omega) (by omega))
  exact ⟨si_unp hS h, by omega, by omega⟩
theorem af_wear (hS : SI g) (sc a c : Int) : AF (eWear g sc a c) (gW g sc a) (zu g (356 + 8 * sc + a) c) := by
  refine ⟨okE_t ok0 ok1, fun h => ?_⟩
  obtain ⟨p, _⟩ := tif_0 h (by decide)
  have hw := iv_wo hS.1 p.2.1.1 p.2.1.2 p.1.1 p.1.2
  have hn := iv_nC hS.1
  exact ⟨si_wear hS h, by omega, by omega⟩
theorem af_perf (hS : SI g) : AF (ePerf g) (g 3 + 1) (zu (zu (soG g (g 0).toNat) 7 (g 7 + 1)) 3 (g 3 + 1)) := by
  have hn := iv_to hS.1
  exact ⟨okE_t (okE_t ok0 ok3) ok2, fun h => ⟨si_perf hS h, by omega, by omega⟩⟩
theorem af_pass (hS : SI g) (d : Int) : AF (ePass g d) (g 3 + d) (zu g 3 (g 3 + d)) := by
  refine ⟨okE_t (okE_t ok0 ok3) ok1, fun h => ?_⟩
  obtain ⟨p, _⟩ := tif_0 h (by decide)
  have hn := iv_to hS.1
  exact ⟨si_pass hS h, by omega, by omega⟩
theorem af_hire (hS : SI g) (c f n r : Int) : AF (eHire g c f n r) (feeF n r) (zu (mkH g c f n (feeF n r) r) 5 (g 5 + feeF n r)) := by
  refine ⟨okE_t (okE_t (okE_t ok0 ok3) ok2) ok1, fun h => ?_⟩
  obtain ⟨p, _⟩ := tif_0 h (by decide)
  have hf := feeF_bd (n := n) (r := r) (by omega) (by omega) (by omega) (by omega)
  exact ⟨si_hire hS h, by omega, by omega⟩
theorem td_bd {x : Int} (h : -3000 ≤ x ∧ x ≤ 3000) : -1500 ≤ x.tdiv 2 ∧ x.tdiv 2 ≤ 1500 := by
  rcases Int.le_total 0 x with z | z
  · rw [Int.tdiv_eq_ediv_of_nonneg z]
    omega
  · have e := Int.neg_tdiv x 2
    rw [Int.tdiv_eq_ediv_of_nonneg (by omega)] at e
    omega
theorem af_end (hS : SI g) (h : Int) : AF (eEnd g h) (bkF g h) (zu (zu (zu g (452 + 5 * h + 2) (g 3 - gH g h 1 + 1)) (452 + 5 * h + 3) (gH g h 3 - bkF g h)) 5 (g 5 - bkF g h)) := by
  refine ⟨okE_t (okE_t ok0 ok2) ok1, fun hE => ?_⟩
  obtain ⟨p, h2⟩ := tif_0 hE (by decide)
  obtain ⟨q, _⟩ := tif_0 h2 (by decide)
  have hh := iv_hi hS.1 p.1 p.2
  have hfb := feeF_bd (n := g 3 - gH g h 1 + 1) (r := gH g h 4) (by omega) (by omega) (by omega) (by omega)
  have hb : -1500 ≤ bkF g h ∧ bkF g h ≤ 1500 := td_bd (by omega)
  exact ⟨si_end hS hE, by omega, by omega⟩
theorem af_wash (hS : SI g) (p ld : Int) : AF (eWash g p ld) (sm (fun k => less g ld (tbD p) k) (g 0).toNat) (zu (clnG g ld (tbD p) (g 0).toNat) 6 (g 6 + tbC p)) := by
  have hn := iv_nC hS.1
  have ht := tbD_9 p
  have hb := sm_bd (f := fun k => less g ld (tbD p) k) (n := (g 0).toNat) (lo := 0) (hi := 9) (fun k k0 k1 => by
    have hd := iv_di hS.1 k0 (by omega)
    show 0 ≤ less g ld (tbD p) k ∧ less g ld (tbD p) k ≤ 9
    unfold less
    rcases Classical.em (bit ld k) with q | q
    · rw [tif_t q]; omega
    · rw [tif_f q]; omega)
  exact ⟨okE_t (okE_t ok0 ok2) ok1, fun h => ⟨si_wash hS h, by omega, by omega⟩⟩
theorem pf_y (h : 0 < prb g 0 + prb g 1 + prb g 2 + prb g 3 + prb g 4) : ePerf g = -2002 := tif_f (fun q => by
  have a0 := q 0 (by decide) (by decide)
  have a1 := q 1 (by decide) (by decide)
  have a2 := q 2 (by decide) (by decide)
  have a3 := q 3 (by decide) (by decide)
  have a4 := q 4 (by decide) (by decide)
  omega) _ _
theorem pf_n (hI : Inv g) (h : prb g 0 + prb g 1 + prb g 2 + prb g 3 + prb g 4 ≤ 0) : ePerf g ≠ -2002 := by
  have b0 := prb_bd hI 0
  have b1 := prb_bd hI 1
  have b2 := prb_bd hI 2
  have b3 := prb_bd hI 3
  have b4 := prb_bd hI 4
  have e : ePerf g = tif (g 3 < 300) 0 (-2003) := tif_t (fun k k0 k1 => by
    rcases (show k = 0 ∨ k = 1 ∨ k = 2 ∨ k = 3 ∨ k = 4 by omega) with z | z | z | z | z <;> rw [z] <;> omega) _ _
  rw [e]
  rcases Classical.em (g 3 < 300) with q | q
  · rw [tif_t q]; decide
  · rw [tif_f q]; decide
theorem act_AF (hS : SI g) (y : Int) : AF (actT g y).1 (actT g y).2.1 (actT g y).2.2 := by
  have h15 := nd_15 y
  by_cases c0 : nd y 15 = 0 ∧ rmn (shr y 4) 2 = 0
  · rw [actT_0 c0]
    exact af_addC hS _ _ _ _ _
  by_cases c1 : nd y 15 = 0
  · rw [actT_1 c1 (fun z => c0 ⟨c1, z⟩)]
    exact af_addA hS _ _ _
  by_cases c2 : nd y 15 = 1
  · rw [actT_2 c2]
    exact af_col hS _ _
  by_cases c3 : nd y 15 = 2
  · rw [actT_3 c3]
    exact af_set hS _ _
  by_cases c4 : nd y 15 = 3 ∨ nd y 15 = 4 ∨ nd y 15 = 5
  · rw [actT_4 c4]
    exact af_alt hS _ _ _
  by_cases c5 : nd y 15 = 6
  · rw [actT_5 c5]
    exact af_unp hS _
  by_cases c6 : nd y 15 = 7 ∨ nd y 15 = 8 ∨ nd y 15 = 9
  · rw [actT_6 c6]
    exact af_wear hS _ _ _
  by_cases c7 : nd y 15 = 10
  · rw [actT_7 c7]
    exact af_perf hS
  by_cases c8 : nd y 15 = 11
  · rw [actT_8 c8]
    exact af_pass hS _
  by_cases c9 : nd y 15 = 12 ∨ nd y 15 = 13
  · rw [actT_9 c9]
    exact af_hire hS _ _ _ _
  by_cases c10 : nd y 15 = 14
  · rw [actT_10 c10]
    exact af_end hS _
  rw [actT_11 (by omega)]
  exact af_wash hS _ _
end AFS
theorem oR_v {E A : Int} {G g : Int → Int} {n : Nat} {hs : Nat → Int → Int} {g' : Int → Int} {n' : Nat} {hs' : Nat → Int → Int} {r : Int32} (h : oR E A G g n hs g' n' hs' r) (hA : AF E A G) : ∃ v : Int, r = zI v ∧ (-2003 ≤ v ∧ v ≤ 100000) ∧ ((E ≠ 0 ∧ v = E ∧ v ≤ -2001 ∧ g' = g ∧ n' = n ∧ hs' = hs) ∨ (E = 0 ∧ v = A ∧ -2000 ≤ v ∧ g' = G ∧ n' = hpN n ∧ hs' = hpS n hs g)) := by
  obtain ⟨hE, hG⟩ := hA
  rcases h with ⟨a, b, c, d, e⟩ | ⟨a, b, c, d, e⟩
  · refine ⟨E, b, ?_, Or.inl ⟨a, rfl, ?_, c, d, e⟩⟩
    · rcases hE with z | z | z | z <;> omega
    · rcases hE with z | z | z | z <;> omega
  · have q := (hG a).2
    exact ⟨A, b, by omega, Or.inr ⟨a, rfl, q.1, c, d, e⟩⟩
theorem oR_SI {E A : Int} {G g : Int → Int} {n : Nat} {hs : Nat → Int → Int} {g' : Int → Int} {n' : Nat} {hs' : Nat → Int → Int} {r : Int32} (h : oR E A G g n hs g' n' hs' r) (hS : SI g) (hG : E = 0 → SI G) : SI g' := by
  rcases h with ⟨a, b, c, d, e⟩ | ⟨a, b, c, d, e⟩
  · rw [c]; exact hS
  · rw [c]; exact hG a
theorem hpS_l (n : Nat) (hs : Nat → Int → Int) (g : Int → Int) (hn : n ≤ 5) : hpS n hs g (hpN n - 1) = g ∧ 0 < hpN n := by
  unfold hpS hpN
  by_cases h : n < 5
  · rw [if_pos h]
    simp only [if_pos h]
    exact ⟨if_pos (by omega), by omega⟩
  · rw [if_neg h]
    simp only [if_neg h]
    exact ⟨if_pos (by decide), by decide⟩
