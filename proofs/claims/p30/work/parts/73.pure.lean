/-! what holds of every state that a run comes to: measures, fees, hires apart -/
noncomputable def ps (g : Int → Int) (c m : Int) (j : Nat) : Int := gC g c m + sm (fun k => ti (gM g c k = m) * gX g c k) j
theorem ps_0 (g : Int → Int) (c m : Int) : ps g c m 0 = gC g c m := by
  unfold ps
  rw [sm_0]
  omega
theorem ps_s (g : Int → Int) (c m : Int) (j : Nat) : ps g c m (j + 1) = ps g c m j + ti (gM g c (j : Int) = m) * gX g c (j : Int) := by
  unfold ps
  rw [sm_s]
  omega
def AL (g : Int → Int) : Prop := ∀ (c m : Int) (j : Nat), 0 ≤ c → c < g 0 → 0 ≤ m → m < 3 → (j : Int) ≤ gC g c 7 → alw g (ps g c m j) c m 0
def FE (g : Int → Int) : Prop := g 5 = sm (fun h => gH g h 3) (g 2).toNat
def NO (g : Int → Int) : Prop := ∀ i h : Int, 0 ≤ i → i < h → h < g 2 → gH g i 0 = gH g h 0 → gH g i 1 < gH g h 1 + gH g h 2 → gH g h 1 < gH g i 1 + gH g i 2 → False
def SI (g : Int → Int) : Prop := Inv g ∧ AL g ∧ FE g ∧ NO g
theorem ps_eq {g g' : Int → Int} {c m : Int} {j : Nat} (m0 : 0 ≤ m) (m1 : m < 3) (hj : (j : Int) ≤ 6) (e : ∀ p : Int, 0 ≤ p → p < 20 → p ≠ 5 → p ≠ 6 → p ≠ 7 → p < 8 + 2 * (j : Int) → gC g' c p = gC g c p) : ps g' c m j = ps g c m j := by
  unfold ps
  rw [e m m0 (by omega) (by omega) (by omega) (by omega) (by omega)]
  congr 1
  exact sm_congr (fun k k0 k1 => by
    have q1 : gM g' c k = gM g c k := e (8 + 2 * k) (by omega) (by omega) (by omega) (by omega) (by omega) (by omega)
    have q2 : gX g' c k = gX g c k := e (8 + 2 * k + 1) (by omega) (by omega) (by omega) (by omega) (by omega) (by omega)
    show ti (gM g' c k = m) * gX g' c k = ti (gM g c k = m) * gX g c k
    rw [q1, q2])
theorem alw_eq {g g' : Int → Int} {c m p p' : Int} (h : alw g p c m 0) (hp : p' = p) (em : gC g' c m = gC g c m) (e3 : gC g' c 3 = gC g c 3) : alw g' p' c m 0 := by
  unfold alw at h ⊢
  rw [hp, em, e3]
  exact h
theorem al_c {g g' : Int → Int} {c m : Int} {j : Nat} (m0 : 0 ≤ m) (m1 : m < 3) (hj : (j : Int) ≤ 6) (e : ∀ p : Int, 0 ≤ p → p < 20 → p ≠ 5 → p ≠ 6 → p ≠ 7 → p < 8 + 2 * (j : Int) → gC g' c p = gC g c p) (h : alw g (ps g c m j) c m 0) : alw g' (ps g' c m j) c m 0 :=
  alw_eq h (ps_eq m0 m1 hj e) (e m m0 (by omega) (by omega) (by omega) (by omega) (by omega)) (e 3 (by omega) (by omega) (by omega) (by omega) (by omega) (by omega))
theorem AL_congr {g g' : Int → Int} (h : AL g) (hI : Inv g) (e0 : g' 0 = g 0) (e : ∀ c p : Int, 0 ≤ c → c < g 0 → 0 ≤ p → p < 20 → p ≠ 5 → p ≠ 6 → gC g' c p = gC g c p) : AL g' := by
  intro c m j c0 c1 m0 m1 hj
  rw [e0] at c1
  have hna := iv_na hI c0 c1
  rw [e c 7 c0 c1 (by decide) (by decide) (by decide) (by decide)] at hj
  exact al_c m0 m1 (by omega) (fun p p0 p1 p5 p6 _ _ => e c p c0 c1 p0 p1 p5 p6) (h c m j c0 c1 m0 m1 hj)
theorem FE_congr {g g' : Int → Int} (h : FE g) (e2 : g' 2 = g 2) (e5 : g' 5 = g 5) (hI : Inv g) (e : ∀ x : Int, 0 ≤ x → x < g 2 → gH g' x 3 = gH g x 3) : FE g' := by
  have hn := iv_nH hI
  unfold FE at h ⊢
  rw [e2, e5, h]
  exact sm_congr (fun k k0 k1 => (e k k0 (by omega)).symm)
theorem NO_congr {g g' : Int → Int} (h : NO g) (e2 : g' 2 = g 2) (e : ∀ x p : Int, 0 ≤ x → x < g 2 → 0 ≤ p → p < 3 → gH g' x p = gH g x p) : NO g' := by
  intro i k i0 ik k1
  rw [e2] at k1
  rw [e i 0 i0 (by omega) (by decide) (by decide), e i 1 i0 (by omega) (by decide) (by decide), e i 2 i0 (by omega) (by decide) (by decide), e k 0 (by omega) k1 (by decide) (by decide), e k 1 (by omega) k1 (by decide) (by decide), e k 2 (by omega) k1 (by decide) (by decide)]
  exact h i k i0 ik k1
theorem si_zu {g : Int → Int} {i v : Int} (h : SI g) (hI2 : Inv (zu g i v)) (h0 : i ≠ 0) (h2 : i ≠ 2) (h5 : i ≠ 5) (hh : i < 452) (hc : 12 ≤ i → i < 332 → (i - 12) % 20 = 5 ∨ (i - 12) % 20 = 6) : SI (zu g i v) := by
  obtain ⟨hI, hA, hF, hN⟩ := h
  have n0 := iv_nC hI
  have n2 := iv_nH hI
  have e0 : zu g i v 0 = g 0 := zu_n (Ne.symm h0)
  have e2 : zu g i v 2 = g 2 := zu_n (Ne.symm h2)
  have e5 : zu g i v 5 = g 5 := zu_n (Ne.symm h5)
  refine ⟨hI2, AL_congr hA hI e0 (fun c p c0 c1 p0 p1 p5 p6 => zu_n (by omega)), FE_congr hF e2 e5 hI (fun x x0 x1 => zu_n (by omega)), NO_congr hN e2 (fun x p x0 x1 p0 p1 => zu_n (by omega))⟩
theorem si_so {g : Int → Int} (h : SI g) (n : Nat) (hn : (n : Int) ≤ g 0) : SI (soG g n) := by
  have n0 := iv_nC h.1
  induction n with
  | zero => exact h
  | succ n ih =>
    have hi := (inv_so h.1 (n + 1) hn).1
    rw [soG_s] at hi ⊢
    exact si_zu (ih (by omega)) hi (by omega) (by omega) (by omega) (by omega) (by omega)
theorem si_cln {g : Int → Int} (h : SI g) {ld st : Int} (hs : 0 ≤ st) (n : Nat) (hn : (n : Int) ≤ g 0) : SI (clnG g ld st n) := by
  have n0 := iv_nC h.1
  induction n with
  | zero => exact h
  | succ n ih =>
    have hi := (inv_cln h.1 (ld := ld) hs (n + 1) hn).1
    rcases Classical.em (bit ld (n : Int)) with q | q
    · rw [clnG_y q] at hi ⊢
      exact si_zu (ih (by omega)) hi (by omega) (by omega) (by omega) (by omega) (by omega)
    · rw [clnG_n q]
      exact ih (by omega)
theorem sm_upd {f f' : Int → Int} {n : Nat} {k d : Int} (k0 : 0 ≤ k) (k1 : k < (n : Int)) (ho : ∀ j : Int, 0 ≤ j → j < (n : Int) → j ≠ k → f' j = f j) (hk : f' k = f k + d) : sm f' n = sm f n + d := by
  induction n with
  | zero => omega
  | succ n ih =>
    rw [sm_s, sm_s]
    by_cases e : k = (n : Int)
    · subst e
      rw [sm_congr (f := f') (g := f) (n := n) (fun j j0 j1 => ho j j0 (by omega) (by omega)), hk]
      omega
    · rw [ih (by omega) (fun j j0 j1 => ho j j0 (by omega)), ho (n : Int) (by omega) (by omega) (Ne.symm e)]
      omega
section SIO
variable {g : Int → Int}
theorem si_addC {a b c d e : Int} (h : SI g) (hE : eAddC g a b c d e = 0) : SI (mkC g a b c d e 0) := by
  have hI2 := ok_addC h.1 hE
  obtain ⟨p, h2⟩ := tif_0 hE (by decide)
  obtain ⟨q, _⟩ := tif_0 h2 (by decide)
  obtain ⟨hI, hA, hF, hN⟩ := h
  have n0 := iv_nC hI
  have n2 := iv_nH hI
  have e2 : mkC g a b c d e 0 2 = g 2 := mkC_o n0.1 (by decide) (by omega)
  have e5 : mkC g a b c d e 0 5 = g 5 := mkC_o n0.1 (by decide) (by omega)
  refine ⟨hI2, fun k m j c0 c1 m0 m1 hj => ?_, FE_congr hF e2 e5 hI (fun x x0 x1 => mkC_o n0.1 (by omega) (by omega)), NO_congr hN e2 (fun x p x0 x1 p0 p1 => mkC_o n0.1 (by omega) (by omega))⟩
  have c2 := c1
  rw [mkC_0] at c2
  by_cases ek : k = g 0
  · have e7 : gC (mkC g a b c d e 0) k 7 = 0 := by
      rw [ek, mkC_k n0.1 (by decide) (by decide)]
      rfl
    have j0 : j = 0 := by omega
    subst j0
    have ho := iv_or hI2 c0 c1 m0 m1
    have ha := iv_al hI2 c0 c1
    rw [ps_0]
    unfold alw
    omega
  · have hna := iv_na hI c0 (show k < g 0 by omega)
    rw [mkC_c n0.1 c0 (by omega) (by decide) (by decide)] at hj
    exact al_c m0 m1 (by omega) (fun p p0 p1 _ _ _ _ => mkC_c n0.1 c0 (by omega) p0 p1) (hA k m j c0 (by omega) m0 m1 hj)
theorem si_addA {a b c : Int} (h : SI g) (hE : eAddA g a b c = 0) : SI (mkA g a b c) := by
  have hI2 := ok_addA h.1 hE
  obtain ⟨p, h2⟩ := tif_0 hE (by decide)
  obtain ⟨q, _⟩ := tif_0 h2 (by decide)
  obtain ⟨hI, hA, hF, hN⟩ := h
  have n0 := iv_nC hI
  have n1 := iv_nA hI
  have n2 := iv_nH hI
  have eo : ∀ x : Int, x ≠ 1 → x < 332 ∨ 452 ≤ x → mkA g a b c x = g x := fun x h1 h2 => mkA_o n1.1 h1 (by omega) (by omega)
  exact ⟨hI2, AL_congr hA hI (eo 0 (by decide) (by decide)) (fun k p c0 c1 p0 p1 _ _ => eo _ (by omega) (by omega)), FE_congr hF (eo 2 (by decide) (by decide)) (eo 5 (by decide) (by decide)) hI (fun x x0 x1 => eo _ (by omega) (by omega)), NO_congr hN (eo 2 (by decide) (by decide)) (fun x p x0 x1 p0 p1 => eo _ (by omega) (by omega))⟩
theorem si_col {c v : Int} (h : SI g) (hE : eCol g c v = 0) : SI (zu g (12 + 20 * c + 5) v) := by
  obtain ⟨p, _⟩ := tif_0 hE (by decide)
  have n0 := iv_nC h.1
  exact si_zu h (ok_col h.1 hE) (by omega) (by omega) (by omega) (by omega) (by omega)
theorem si_set {i v : Int} (h : SI g) (hE : eSet i v = 0) : SI (zu g (8 + i) v) := by
  obtain ⟨p, _⟩ := tif_0 hE (by decide)
  exact si_zu h (ok_set h.1 hE) (by omega) (by omega) (by omega) (by omega) (by omega)
theorem si_pass {d : Int} (h : SI g) (hE : ePass g d = 0) : SI (zu g 3 (g 3 + d)) := si_zu h (ok_pass h.1 hE) (by decide) (by decide) (by decide) (by decide) (by decide)
theorem si_wear {sc a c : Int} (h : SI g) (hE : eWear g sc a c = 0) : SI (zu g (356 + 8 * sc + a) c) := by
  obtain ⟨p, _⟩ := tif_0 hE (by decide)
  have n1 := iv_nA h.1
  exact si_zu h (ok_wear h.1 hE) (by omega) (by omega) (by omega) (by omega) (by omega)
theorem si_perf (h : SI g) (hE : ePerf g = 0) : SI (zu (zu (soG g (g 0).toNat) 7 (g 7 + 1)) 3 (g 3 + 1)) := by
  have n0 := iv_nC h.1
  have hs := si_so h (g 0).toNat (by omega)
  have h7 := si_zu (v := g 7 + 1) hs (inv_7 hs.1) (by decide) (by decide) (by decide) (by decide) (by decide)
  exact si_zu h7 (ok_perf h.1 hE) (by decide) (by decide) (by decide) (by decide) (by decide)
theorem si_wash {p ld v : Int} (h : SI g) (hE : eWash g p ld = 0) : SI (zu (clnG g ld (tbD p) (g 0).toNat) 6 v) := by
  have n0 := iv_nC h.1
  have := tbD_9 p
  have hs := si_cln h (ld := ld) (st := tbD p) (by omega) (g 0).toNat (by omega)
  exact si_zu hs (ok_wash h.1 hE) (by decide) (by decide) (by decide) (by decide) (by decide)
theorem si_alt {c m d v : Int} (h : SI g) (hE : eAlt g c m d = 0) : SI (zu (altG g c m d) 4 v) := by
  have hI2 := ok_alt (v := v) h.1 hE
  obtain ⟨p, h2⟩ := tif_0 hE (by decide)
  obtain ⟨q, h3⟩ := tif_0 h2 (by decide)
  obtain ⟨r, _⟩ := tif_0 h3 (by decide)
  obtain ⟨hI, hA, hF, hN⟩ := h
  have n0 := iv_nC hI
  have n2 := iv_nH hI
  have hna := iv_na hI p.1.1 p.1.2
  have eo : ∀ x : Int, x ≠ 4 → x ≠ 12 + 20 * c + (8 + 2 * gC g c 7) → x ≠ 12 + 20 * c + (8 + 2 * gC g c 7 + 1) → x ≠ 12 + 20 * c + 7 → zu (altG g c m d) 4 v x = g x := fun x a0 a1 a2 a3 => by
    unfold altG
    rw [zu_n a0, zu_n a3, zu_n a2, zu_n a1]
  have eC : ∀ p : Int, 0 ≤ p → p < 20 → p ≠ 7 → p < 8 + 2 * gC g c 7 → gC (zu (altG g c m d) 4 v) c p = gC g c p := fun p p0 p1 p7 p8 => eo _ (by omega) (by omega) (by omega) (by omega)
  have e7 : gC (zu (altG g c m d) 4 v) c 7 = gC g c 7 + 1 := by
    show zu (altG g c m d) 4 v (12 + 20 * c + 7) = _
    unfold altG
    rw [zu_n (by omega), zu_s]
  have eM : gM (zu (altG g c m d) 4 v) c (gC g c 7) = m := by
    show zu (altG g c m d) 4 v (12 + 20 * c + (8 + 2 * gC g c 7)) = _
    unfold altG
    rw [zu_n (by omega), zu_n (by omega), zu_n (by omega), zu_s]
  have eX : gX (zu (altG g c m d) 4 v) c (gC g c 7) = d := by
    show zu (altG g c m d) 4 v (12 + 20 * c + (8 + 2 * gC g c 7 + 1)) = _
    unfold altG
    rw [zu_n (by omega), zu_n (by omega), zu_s]
  have f0 := eo 0 (by omega) (by omega) (by omega) (by omega)
  have f2 := eo 2 (by omega) (by omega) (by omega) (by omega)
  have f5 := eo 5 (by omega) (by omega) (by omega) (by omega)
  refine ⟨hI2, fun k m' j c0 c1 m0 m1 hj => ?_, FE_congr hF f2 f5 hI (fun x x0 x1 => eo _ (by omega) (by omega) (by omega) (by omega)), NO_congr hN f2 (fun x p x0 x1 p0 p1 => eo _ (by omega) (by omega) (by omega) (by omega))⟩
  rw [f0] at c1
  by_cases ek : k = c
  · subst ek
    rw [e7] at hj
    have hj6 : (j : Int) ≤ 6 := by omega
    rcases Nat.lt_or_ge (gC g k 7).toNat j with z | z
    · have ej : j = (gC g k 7).toNat + 1 := by omega
      subst ej
      have en : (((gC g k 7).toNat : Nat) : Int) = gC g k 7 := by omega
      have ep : ps (zu (altG g k m d) 4 v) k m' (gC g k 7).toNat = ps g k m' (gC g k 7).toNat := ps_eq m0 m1 (by omega) (fun p p0 p1 _ _ p7 p8 => eC p p0 p1 p7 (by omega))
      have ha := hA k m' (gC g k 7).toNat c0 c1 m0 m1 (by omega)
      have g1 := eC m' m0 (by omega) (by omega) (by omega)
      have g3 := eC 3 (by omega) (by omega) (by omega) (by omega)
      rw [ps_s, ep, en, eM, eX]
      by_cases em : m = m'
      · subst em
        rw [ti_t rfl]
        have qa := q.2
        unfold alw at qa ⊢
        rw [g1, g3]
        have e9 : pres g k m = ps g k m (gC g k 7).toNat := rfl
        rw [e9] at qa
        omega
      · rw [ti_f em]
        refine alw_eq ha (by omega) g1 g3
    · exact al_c m0 m1 hj6 (fun p p0 p1 _ _ p7 p8 => eC p p0 p1 p7 (by omega)) (hA k m' j c0 c1 m0 m1 (by omega))
  · have e9 : ∀ p : Int, 0 ≤ p → p < 20 → gC (zu (altG g c m d) 4 v) k p = gC g k p := fun p p0 p1 => eo _ (by omega) (by omega) (by omega) (by omega)
    have hna2 := iv_na hI c0 c1
    rw [e9 7 (by decide) (by decide)] at hj
    exact al_c m0 m1 (by omega) (fun p p0 p1 _ _ _ _ => e9 p p0 p1) (hA k m' j c0 c1 m0 m1 hj)
theorem si_unp {c v : Int} (h : SI g) (hE : eUnp g c = 0) : SI (zu (zu g (12 + 20 * c + 7) (gC g c 7 - 1)) 4 v) := by
  have hI2 := ok_unp (v := v) h.1 hE
  obtain ⟨p, h2⟩ := tif_0 hE (by decide)
  obtain ⟨q, _⟩ := tif_0 h2 (by decide)
  obtain ⟨hI, hA, hF, hN⟩ := h
  have n0 := iv_nC hI
  have n2 := iv_nH hI
  have eo : ∀ x : Int, x ≠ 4 → x ≠ 12 + 20 * c + 7 → zu (zu g (12 + 20 * c + 7) (gC g c 7 - 1)) 4 v x = g x := fun x a0 a1 => by rw [zu_n a0, zu_n a1]
  have f0 := eo 0 (by omega) (by omega)
  have f2 := eo 2 (by omega) (by omega)
  have f5 := eo 5 (by omega) (by omega)
  refine ⟨hI2, fun k m' j c0 c1 m0 m1 hj => ?_, FE_congr hF f2 f5 hI (fun x x0 x1 => eo _ (by omega) (by omega)), NO_congr hN f2 (fun x p x0 x1 p0 p1 => eo _ (by omega) (by omega))⟩
  rw [f0] at c1
  have hna := iv_na hI c0 c1
  have hj2 : (j : Int) ≤ gC g k 7 := by
    by_cases ek : k = c
    · subst ek
      have e7 : gC (zu (zu g (12 + 20 * k + 7) (gC g k 7 - 1)) 4 v) k 7 = gC g k 7 - 1 := by
        show zu (zu g (12 + 20 * k + 7) (gC g k 7 - 1)) 4 v (12 + 20 * k + 7) = _
        rw [zu_n (by omega), zu_s]
      omega
    · have e7 : gC (zu (zu g (12 + 20 * c + 7) (gC g c 7 - 1)) 4 v) k 7 = gC g k 7 := eo _ (by omega) (by omega)
      omega
  exact al_c m0 m1 (by omega) (fun p p0 p1 _ _ p7 _ => eo _ (by omega) (by omega)) (hA k m' j c0 c1 m0 m1 hj2)
theorem si_hire {c f n r : Int} (h : SI g) (hE : eHire g c f n r = 0) : SI (zu (mkH g c f n (feeF n r) r) 5 (g 5 + feeF n r)) := by
  have hI2 := ok_hire (v := g 5 + feeF n r) h.1 hE
  obtain ⟨p, h2⟩ := tif_0 hE (by decide)
  obtain ⟨q, h3⟩ := tif_0 h2 (by decide)
  obtain ⟨w, _⟩ := tif_0 h3 (by decide)
  obtain ⟨hI, hA, hF, hN⟩ := h
  have n0 := iv_nC hI
  have n2 := iv_nH hI
  have eo : ∀ x : Int, x ≠ 5 → x ≠ 2 → x < 452 + 5 * g 2 ∨ 457 + 5 * g 2 ≤ x → zu (mkH g c f n (feeF n r) r) 5 (g 5 + feeF n r) x = g x := fun x a0 a1 a2 => by rw [zu_n a0]; exact mkH_o n2.1 a1 a2
  have f2 : zu (mkH g c f n (feeF n r) r) 5 (g 5 + feeF n r) 2 = g 2 + 1 := by rw [zu_n (by decide)]; exact mkH_2
  obtain ⟨k0, k1, k2, k3, k4⟩ := mkH_k (g := g) (c := c) (f := f) (n := n) (fee := feeF n r) (r := r) n2.1
  have eN : ∀ p : Int, 0 ≤ p → gH (zu (mkH g c f n (feeF n r) r) 5 (g 5 + feeF n r)) (g 2) p = gH (mkH g c f n (feeF n r) r) (g 2) p := fun p p0 => zu_n (by omega)
  refine ⟨hI2, AL_congr hA hI (eo 0 (by omega) (by omega) (by omega)) (fun k p c0 c1 p0 p1 _ _ => eo _ (by omega) (by omega) (by omega)), ?_, ?_⟩
  · unfold FE at hF ⊢
    rw [f2, zu_s, hF, show (g 2 + 1).toNat = (g 2).toNat + 1 by omega, sm_s]
    have e1 : sm (fun h => gH (zu (mkH g c f n (feeF n r) r) 5 (g 5 + feeF n r)) h 3) (g 2).toNat = sm (fun h => gH g h 3) (g 2).toNat := sm_congr (fun k q0 q1 => eo _ (by omega) (by omega) (by omega))
    rw [hF] at e1
    rw [e1]
    congr 1
    have e2 := eN 3 (by decide)
    rw [k3, hF] at e2
    rw [show (((g 2).toNat : Nat) : Int) = g 2 by omega]
    exact e2.symm
  · intro i x i0 ix x1
    rw [f2] at x1
    have ei : ∀ p : Int, 0 ≤ p → p < 5 → gH (zu (mkH g c f n (feeF n r) r) 5 (g 5 + feeF n r)) i p = gH g i p := fun p p0 p1 => eo _ (by omega) (by omega) (by omega)
    rw [ei 0 (by decide) (by decide), ei 1 (by decide) (by decide), ei 2 (by decide) (by decide)]
    by_cases ex : x = g 2
    · rw [ex, eN 0 (by decide), eN 1 (by decide), eN 2 (by decide), k0, k1, k2]
      exact fun a1 a2 a3 => q ⟨i, i0, by omega, a1, a2, a3⟩
    · have ej : ∀ p : Int, 0 ≤ p → p < 5 → gH (zu (mkH g c f n (feeF n r) r) 5 (g 5 + feeF n r)) x p = gH g x p := fun p p0 p1 => eo _ (by omega) (by omega) (by omega)
      rw [ej 0 (by decide) (by decide), ej 1 (by decide) (by decide), ej 2 (by decide) (by decide)]
      exact hN i x i0 ix (by omega)
theorem si_end {h : Int} (hS : SI g) (hE : eEnd g h = 0) : SI (zu (zu (zu g (452 + 5 * h + 2) (g 3 - gH g h 1 + 1)) (452 + 5 * h + 3) (gH g h 3 - bkF g h)) 5 (g 5 - bkF g h)) := by
  have hI2 := ok_end (v := g 5 - bkF g h) hS.1 hE
  obtain ⟨p, h2⟩ := tif_0 hE (by decide)
  obtain ⟨q, _⟩ := tif_0 h2 (by decide)
  obtain ⟨hI, hA, hF, hN⟩ := hS
  have n0 := iv_nC hI
  have n2 := iv_nH hI
  obtain ⟨G, hG⟩ : ∃ G : Int → Int, G = zu (zu (zu g (452 + 5 * h + 2) (g 3 - gH g h 1 + 1)) (452 + 5 * h + 3) (gH g h 3 - bkF g h)) 5 (g 5 - bkF g h) := ⟨_, rfl⟩
  have eo : ∀ x : Int, x ≠ 5 → x ≠ 452 + 5 * h + 3 → x ≠ 452 + 5 * h + 2 → G x = g x := fun x a0 a1 a2 => by rw [hG, zu_n a0, zu_n a1, zu_n a2]
  have e3 : gH G h 3 = gH g h 3 - bkF g h := by
    show G (452 + 5 * h + 3) = _
    rw [hG, zu_n (by omega), zu_s]
  have e2 : gH G h 2 = g 3 - gH g h 1 + 1 := by
    show G (452 + 5 * h + 2) = _
    rw [hG, zu_n (by omega), zu_n (by omega), zu_s]
  have e5 : G 5 = g 5 - bkF g h := by rw [hG, zu_s]
  rw [← hG] at hI2 ⊢
  have f2 := eo 2 (by omega) (by omega) (by omega)
  have h01 : ∀ x p : Int, 0 ≤ p → p < 2 → gH G x p = gH g x p := fun x p p0 p1 => eo _ (by omega) (by omega) (by omega)
  have hd : ∀ x : Int, gH G x 2 ≤ gH g x 2 := fun x => by
    by_cases ex : x = h
    · rw [ex, e2]; omega
    · rw [show gH G x 2 = gH g x 2 from eo _ (by omega) (by omega) (by omega)]
      exact Int.le_refl _
  refine ⟨hI2, AL_congr hA hI (eo 0 (by omega) (by omega) (by omega)) (fun k p c0 c1 p0 p1 _ _ => eo _ (by omega) (by omega) (by omega)), ?_, ?_⟩
  · unfold FE at hF ⊢
    rw [f2, e5]
    have e9 := sm_upd (f := fun x => gH g x 3) (f' := fun x => gH G x 3) (n := (g 2).toNat) (k := h) (d := - bkF g h) p.1 (by omega) (fun j j0 j1 hj => eo _ (by omega) (by omega) (by omega)) (by show gH G h 3 = gH g h 3 + - bkF g h; rw [e3]; omega)
    rw [e9, hF]
    omega
  · intro i x i0 ix x1 a1 a2 a3
    rw [f2] at x1
    rw [h01 i 0 (by decide) (by decide), h01 x 0 (by decide) (by decide)] at a1
    rw [h01 i 1 (by decide) (by decide), h01 x 1 (by decide) (by decide)] at a2
    rw [h01 i 1 (by decide) (by decide), h01 x 1 (by decide) (by decide)] at a3
    have d1 := hd i
    have d2 := hd x
    exact hN i x i0 ix x1 a1 (by omega) (by omega)
end SIO
