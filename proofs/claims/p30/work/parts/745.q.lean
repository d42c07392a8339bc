/-! what the readers answer where they are asked rightly; the law's digest as a number -/
theorem qCou_0 {g : Int → Int} {n tl k : Int} (h : k ≠ 10) (h2 : k ≠ 11) : qCou g n tl k = qCou g 0 0 k := by
  unfold qCou
  simp only [if_neg h, if_neg h2]
theorem qCos_c {g : Int → Int} {c k p : Int} (c0 : 0 ≤ c) (c1 : c < g 0) (hk : k = p + 3) (p0 : 0 ≤ p) (p1 : p < 8) : qCos g c k = gC g c p := by
  unfold qCos
  rw [tif_t (show (0 ≤ c ∧ c < g 0) ∧ 0 ≤ k ∧ k ≤ 12 by omega), tif_f (show ¬ k < 3 by omega), tif_t (show k < 11 by omega), show k - 3 = p by omega]
theorem qCos_o {g : Int → Int} {c m : Int} (c0 : 0 ≤ c) (c1 : c < g 0) (m0 : 0 ≤ m) (m1 : m < 3) : qCos g c (3 + m) = gC g c m := qCos_c c0 c1 (by omega) m0 (by omega)
theorem qCos_p {g : Int → Int} {c m : Int} (c0 : 0 ≤ c) (c1 : c < g 0) (m0 : 0 ≤ m) (m1 : m < 3) : qCos g c m = pres g c m := by
  unfold qCos
  rw [tif_t (show (0 ≤ c ∧ c < g 0) ∧ 0 ≤ m ∧ m ≤ 12 by omega), tif_t m1]
theorem qAlt_0 {g : Int → Int} {c k : Int} (c0 : 0 ≤ c) (c1 : c < g 0) (k0 : 0 ≤ k) (h : k < gC g c 7) : qAlt g c k 0 = gM g c k := by
  unfold qAlt gM
  rw [tif_t (show (0 ≤ c ∧ c < g 0) ∧ 0 ≤ k ∧ (0 : Int) ≤ 0 ∧ (0 : Int) ≤ 1 by omega), tif_t h, show 8 + 2 * k + 0 = 8 + 2 * k by omega]
theorem qAlt_1 {g : Int → Int} {c k : Int} (c0 : 0 ≤ c) (c1 : c < g 0) (k0 : 0 ≤ k) (h : k < gC g c 7) : qAlt g c k 1 = gX g c k := by
  unfold qAlt gX
  rw [tif_t (show (0 ≤ c ∧ c < g 0) ∧ 0 ≤ k ∧ (0 : Int) ≤ 1 ∧ (1 : Int) ≤ 1 by omega), tif_t h]
theorem qAlt_n {g : Int → Int} {c k p : Int} (c0 : 0 ≤ c) (c1 : c < g 0) (k0 : 0 ≤ k) (p0 : 0 ≤ p) (p1 : p ≤ 1) (h : ¬ k < gC g c 7) : qAlt g c k p = -2009 := by
  unfold qAlt
  rw [tif_t (show (0 ≤ c ∧ c < g 0) ∧ 0 ≤ k ∧ 0 ≤ p ∧ p ≤ 1 by omega), tif_f h]
theorem qAlt_or {g : Int → Int} {c k : Int} {r : Int32} (c0 : 0 ≤ c) (c1 : c < g 0) (k0 : 0 ≤ k) (h : r = zI (qAlt g c k 0)) : (k < gC g c 7 ∧ r = zI (gM g c k)) ∨ (gC g c 7 ≤ k ∧ r = zI (-2009)) := by
  rcases Int.lt_or_le k (gC g c 7) with z | z
  · rw [qAlt_0 c0 c1 k0 z] at h
    exact Or.inl ⟨z, h⟩
  · rw [qAlt_n c0 c1 k0 (by decide) (by decide) (by omega)] at h
    exact Or.inr ⟨z, h⟩
theorem qHir_c {g : Int → Int} {h k : Int} (h0 : 0 ≤ h) (h1 : h < g 2) (k0 : 0 ≤ k) (k1 : k ≤ 3) : qHir g h k = gH g h k := tif_t ⟨⟨h0, h1⟩, k0, k1⟩ _ _
theorem fe_bd {g : Int → Int} (hI : Inv g) (h : FE g) : 0 ≤ g 5 ∧ g 5 ≤ 72000 := by
  have hn := iv_nH hI
  have hb := sm_bd (f := fun x => gH g x 3) (n := (g 2).toNat) (lo := 0) (hi := 3000) (fun x x0 x1 => (iv_hi hI x0 (by omega)).2.2.2.1)
  unfold FE at h
  omega
theorem dv_bd {x : Int} (h0 : 0 ≤ x) (h1 : x ≤ 65535) (k : Int) : 0 ≤ x / pw k ∧ x / pw k ≤ 65535 := by
  have hp := pw_pos k
  have a := Int.ediv_nonneg h0 (Int.le_of_lt hp)
  have b := Int.ediv_le_self (pw k) h0
  omega
/-- a loop that counts -/
def itr (F : Int → Int → Int) : Nat → Int → Int
  | 0, h => h
  | n + 1, h => F (n : Int) (itr F n h)
theorem itr_0 (F : Int → Int → Int) (h : Int) : itr F 0 h = h := rfl
theorem itr_s (F : Int → Int → Int) (n : Nat) (h : Int) : itr F (n + 1) h = F (n : Int) (itr F n h) := rfl
def dgf (q : Int → Int) : Int → Int → Int := fun i h => 31 * h + wz (q i)
noncomputable def dgX (g : Int → Int) (k : Int) : Int → Int → Int := fun i h => 31 * (31 * h + wz (qAlt g k i 0)) + wz (qAlt g k i 1)
noncomputable def dgC (g : Int → Int) : Int → Int → Int := fun k h => itr (dgX g k) 6 (itr (dgf (qCos g k)) 13 h)
noncomputable def dgA (g : Int → Int) : Int → Int → Int := fun a h => itr (dgf (qAct g a)) 15 h
noncomputable def dgH (g : Int → Int) : Int → Int → Int := fun k h => itr (dgf (qHir g k)) 4 h
noncomputable def dg1 (g : Int → Int) : Int := itr (dgf (qCou g 0 0)) 10 7
noncomputable def dg2 (g : Int → Int) : Int := itr (dgf (fun x => qCou g 0 0 (12 + x))) 4 (dg1 g)
noncomputable def dg3 (g : Int → Int) : Int := itr (dgC g) (g 0).toNat (dg2 g)
noncomputable def dg4 (g : Int → Int) : Int := itr (dgA g) (g 1).toNat (dg3 g)
noncomputable def DG (g : Int → Int) : Int := itr (dgH g) (g 2).toNat (dg4 g)
theorem dgC_s (g : Int → Int) (k : Nat) (h : Int) : itr (dgC g) (k + 1) h = itr (dgX g (k : Int)) 6 (itr (dgf (qCos g (k : Int))) 13 (itr (dgC g) k h)) := itr_s (dgC g) k h
theorem dgA_s (g : Int → Int) (k : Nat) (h : Int) : itr (dgA g) (k + 1) h = itr (dgf (qAct g (k : Int))) 15 (itr (dgA g) k h) := itr_s (dgA g) k h
theorem dgH_s (g : Int → Int) (k : Nat) (h : Int) : itr (dgH g) (k + 1) h = itr (dgf (qHir g (k : Int))) 4 (itr (dgH g) k h) := itr_s (dgH g) k h
