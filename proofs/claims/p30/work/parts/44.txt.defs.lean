/-! the text's items: what both readers say of them -/
def wdC : List Int := [99, 111, 115, 116, 117, 109, 101]
def wdA : List Int := [97, 99, 116, 111, 114]
def wdD : List Int := [100, 97, 114, 107]
def tW (tx : Int → Int) (tl p : Int) (w : List Int) : Prop := tK tx tl p = 1 ∧ isW tx (tS tx tl p) (tE tx tl p) w
noncomputable def tV (tx : Int → Int) (tl p : Int) : Int := nv tx (tS tx tl p) (tE tx tl p - tS tx tl p).toNat
def tZ (tx : Int → Int) (tl p : Int) : Prop := 1 < tE tx tl p - tS tx tl p ∧ tx (tS tx tl p) = 48
def tN (tx : Int → Int) (tl p lo hi : Int) : Prop := tK tx tl p = 2 ∧ ¬ tZ tx tl p ∧ lo ≤ tV tx tl p ∧ tV tx tl p ≤ hi
def tF (tx : Int → Int) (tl p : Int) : Prop := tK tx tl p = 3 ∧ tx (tS tx tl p) = 59
noncomputable def tP (tx : Int → Int) (tl p : Int) : Nat → Int
  | 0 => p
  | k + 1 => tE tx tl (tP tx tl p k)
theorem tP_s (tx : Int → Int) (tl p : Int) (k : Nat) : tP tx tl p (k + 1) = tE tx tl (tP tx tl p k) := rfl
def loN (k : Int) : Int := if k ≤ 3 then 40 else 0
def hiN (k : Int) : Int := if k ≤ 3 then 200 else if k = 4 then 8 else 3
def okN (tx : Int → Int) (tl p : Int) (k : Nat) : Prop := tN tx tl (tP tx tl p k) (loN (k : Int)) (hiN (k : Int))
noncomputable def nN (tx : Int → Int) (tl p : Int) : Nat := @ite Nat (tW tx tl p wdC) (Classical.propDecidable _) 5 3
theorem nN_c {tx : Int → Int} {tl p : Int} (h : tW tx tl p wdC) : nN tx tl p = 5 := @if_pos _ (Classical.propDecidable _) h _ _ _
theorem nN_a {tx : Int → Int} {tl p : Int} (h : ¬ tW tx tl p wdC) : nN tx tl p = 3 := @if_neg _ (Classical.propDecidable _) h _ _ _
noncomputable def pL (tx : Int → Int) (tl p : Int) : Int := tP tx tl p (nN tx tl p + 1)
def dK (tx : Int → Int) (tl p : Int) : Prop := tW tx tl p wdC ∧ tW tx tl (pL tx tl p) wdD
noncomputable def pE (tx : Int → Int) (tl p : Int) : Int := tif (dK tx tl p) (tE tx tl (pL tx tl p)) (pL tx tl p)
def hdO (tx : Int → Int) (tl : Int) (g : Int → Int) (p : Int) : Prop := (tW tx tl p wdC ∧ g 0 < 16) ∨ (tW tx tl p wdA ∧ g 1 < 8)
def itO (tx : Int → Int) (tl : Int) (g : Int → Int) (p : Int) : Prop := hdO tx tl g p ∧ (∀ k : Nat, 1 ≤ k → k ≤ nN tx tl p → okN tx tl p k) ∧ tF tx tl (pE tx tl p)
noncomputable def itN (tx : Int → Int) (tl p : Int) : Int := tE tx tl (pE tx tl p)
noncomputable def vN (tx : Int → Int) (tl p : Int) (k : Nat) : Int := tV tx tl (tP tx tl p k)
noncomputable def itG (tx : Int → Int) (tl : Int) (g : Int → Int) (p : Int) : Int → Int := @ite (Int → Int) (tW tx tl p wdC) (Classical.propDecidable _) (mkC g (vN tx tl p 1) (vN tx tl p 2) (vN tx tl p 3) (vN tx tl p 4) (vN tx tl p 5) (ti (dK tx tl p))) (mkA g (vN tx tl p 1) (vN tx tl p 2) (vN tx tl p 3))
theorem itG_c {tx : Int → Int} {tl : Int} {g : Int → Int} {p : Int} (h : tW tx tl p wdC) : itG tx tl g p = mkC g (vN tx tl p 1) (vN tx tl p 2) (vN tx tl p 3) (vN tx tl p 4) (vN tx tl p 5) (ti (dK tx tl p)) := @if_pos _ (Classical.propDecidable _) h _ _ _
theorem itG_a {tx : Int → Int} {tl : Int} {g : Int → Int} {p : Int} (h : ¬ tW tx tl p wdC) : itG tx tl g p = mkA g (vN tx tl p 1) (vN tx tl p 2) (vN tx tl p 3) := @if_neg _ (Classical.propDecidable _) h _ _ _
/-- the item at p is wrong, and its error stands at e -/
def itB (tx : Int → Int) (tl : Int) (g : Int → Int) (p e : Int) : Prop :=
  (¬ hdO tx tl g p ∧ e = tS tx tl p) ∨
  (hdO tx tl g p ∧ ∃ k : Nat, 1 ≤ k ∧ k ≤ nN tx tl p ∧ (∀ j : Nat, 1 ≤ j → j < k → okN tx tl p j) ∧ ¬ okN tx tl p k ∧ e = tS tx tl (tP tx tl p k)) ∨
  (hdO tx tl g p ∧ (∀ k : Nat, 1 ≤ k → k ≤ nN tx tl p → okN tx tl p k) ∧ ¬ tF tx tl (pE tx tl p) ∧ e = tS tx tl (pE tx tl p))
theorem itB_u {tx : Int → Int} {tl : Int} {g : Int → Int} {p e e' : Int} (h : itB tx tl g p e) (h' : itB tx tl g p e') : e = e' := by
  rcases h with ⟨a, b⟩ | ⟨a, k, k1, k2, k3, k4, k5⟩ | ⟨a, b, c, d⟩ <;> rcases h' with ⟨a', b'⟩ | ⟨a', k', k1', k2', k3', k4', k5'⟩ | ⟨a', b', c', d'⟩
  · rw [b, b']
  · exact absurd a' a
  · exact absurd a' a
  · exact absurd a a'
  · rcases Nat.lt_trichotomy k k' with z | z | z
    · exact absurd (k3' k k1 z) k4
    · rw [k5, k5', z]
    · exact absurd (k3 k' k1' z) k4'
  · exact absurd (b' k k1 k2) k4
  · exact absurd a a'
  · exact absurd (b k' k1' k2') k4'
  · rw [d, d']
theorem itB_n {tx : Int → Int} {tl : Int} {g : Int → Int} {p e : Int} (h : itB tx tl g p e) : ¬ itO tx tl g p := by
  rintro ⟨q1, q2, q3⟩
  rcases h with ⟨a, b⟩ | ⟨a, k, k1, k2, k3, k4, k5⟩ | ⟨a, b, c, d⟩
  · exact a q1
  · exact k4 (q2 k k1 k2)
  · exact c q3
theorem tW_ca {tx : Int → Int} {tl p : Int} (h : tW tx tl p wdC) (h' : tW tx tl p wdA) : False := by
  have h1 := h.2.1
  have h2 := h'.2.1
  have e1 : (wdC.length : Int) = 7 := rfl
  have e2 : (wdA.length : Int) = 5 := rfl
  omega
/-- the items one behind another -/
noncomputable def sqP (tx : Int → Int) (tl : Int) : Nat → Int
  | 0 => 0
  | i + 1 => itN tx tl (sqP tx tl i)
noncomputable def sqG (tx : Int → Int) (tl : Int) (g : Int → Int) : Nat → (Int → Int)
  | 0 => g
  | i + 1 => itG tx tl (sqG tx tl g i) (sqP tx tl i)
def sqO (tx : Int → Int) (tl : Int) (g : Int → Int) (k : Nat) : Prop := ∀ j : Nat, j < k → tK tx tl (sqP tx tl j) ≠ 0 ∧ itO tx tl (sqG tx tl g j) (sqP tx tl j)
/-- the whole text is right, and has k items -/
def ldO (tx : Int → Int) (tl : Int) (g : Int → Int) (k : Nat) : Prop := sqO tx tl g k ∧ tK tx tl (sqP tx tl k) = 0
/-- it is wrong, at e -/
def ldB (tx : Int → Int) (tl : Int) (g : Int → Int) (e : Int) : Prop := ∃ k : Nat, sqO tx tl g k ∧ tK tx tl (sqP tx tl k) ≠ 0 ∧ itB tx tl (sqG tx tl g k) (sqP tx tl k) e
theorem ldO_u {tx : Int → Int} {tl : Int} {g : Int → Int} {k k' : Nat} (h : ldO tx tl g k) (h' : ldO tx tl g k') : k = k' := by
  rcases Nat.lt_trichotomy k k' with z | z | z
  · exact absurd h.2 (h'.1 k z).1
  · exact z
  · exact absurd h'.2 (h.1 k' z).1
theorem ldB_u {tx : Int → Int} {tl : Int} {g : Int → Int} {e e' : Int} (h : ldB tx tl g e) (h' : ldB tx tl g e') : e = e' := by
  obtain ⟨k, a, b, c⟩ := h
  obtain ⟨k', a', b', c'⟩ := h'
  rcases Nat.lt_trichotomy k k' with z | z | z
  · exact absurd (a' k z).2 (itB_n c)
  · subst z; exact itB_u c c'
  · exact absurd (a k' z).2 (itB_n c')
theorem ldOB {tx : Int → Int} {tl : Int} {g : Int → Int} {k : Nat} {e : Int} (h : ldO tx tl g k) (h' : ldB tx tl g e) : False := by
  obtain ⟨k', a', b', c'⟩ := h'
  rcases Nat.lt_trichotomy k k' with z | z | z
  · exact (a' k z).1 h.2
  · subst z; exact b' h.2
  · exact itB_n c' (h.1 k' z).2
/-- what load gives -/
def oD (tx : Int → Int) (tl : Int) (g : Int → Int) (n : Nat) (hs : Nat → Int → Int) (g' : Int → Int) (n' : Nat) (hs' : Nat → Int → Int) (tl' : Int) (r : Int32) : Prop :=
  (∃ k : Nat, ldO tx tl g k ∧ r = zI (k : Int) ∧ g' = sqG tx tl g k ∧ n' = hpN n ∧ hs' = hpS n hs g ∧ tl' = 0) ∨ (∃ e : Int, ldB tx tl g e ∧ r = zI (-10000 - e) ∧ g' = g ∧ n' = n ∧ hs' = hs ∧ tl' = tl)
theorem oD_u {tx : Int → Int} {tl : Int} {g : Int → Int} {n : Nat} {hs : Nat → Int → Int} {g1 g2 : Int → Int} {n1 n2 : Nat} {hs1 hs2 : Nat → Int → Int} {t1 t2 : Int} {r1 r2 : Int32} (h1 : oD tx tl g n hs g1 n1 hs1 t1 r1) (h2 : oD tx tl g n hs g2 n2 hs2 t2 r2) : r1 = r2 ∧ g1 = g2 ∧ n1 = n2 ∧ hs1 = hs2 ∧ t1 = t2 := by
  rcases h1 with ⟨k, a, b, c, d, e, f⟩ | ⟨k, a, b, c, d, e, f⟩ <;> rcases h2 with ⟨k', a', b', c', d', e', f'⟩ | ⟨k', a', b', c', d', e', f'⟩
  · have z := ldO_u a a'
    subst z
    exact ⟨b.trans b'.symm, c.trans c'.symm, d.trans d'.symm, e.trans e'.symm, f.trans f'.symm⟩
  · exact (ldOB a a').elim
  · exact (ldOB a' a).elim
  · have z := ldB_u a a'
    subst z
    exact ⟨b.trans b'.symm, c.trans c'.symm, d.trans d'.symm, e.trans e'.symm, f.trans f'.symm⟩
/-! where the places lie -/
theorem tP_bd {tx : Int → Int} {tl p : Int} (h0 : 0 ≤ p) (h1 : p ≤ tl) (k : Nat) : p ≤ tP tx tl p k ∧ tP tx tl p k ≤ tl := by
  induction k with
  | zero => exact ⟨Int.le_refl _, h1⟩
  | succ k ih =>
    have h := tE_bd (tx := tx) (tl := tl) (p := tP tx tl p k) (by omega) ih.2
    rw [tP_s]
    omega
theorem pL_bd {tx : Int → Int} {tl p : Int} (h0 : 0 ≤ p) (h1 : p ≤ tl) : p ≤ pL tx tl p ∧ pL tx tl p ≤ tl := tP_bd h0 h1 _
theorem pE_bd {tx : Int → Int} {tl p : Int} (h0 : 0 ≤ p) (h1 : p ≤ tl) : p ≤ pE tx tl p ∧ pE tx tl p ≤ tl := by
  have h2 := pL_bd (tx := tx) h0 h1
  have h3 := tE_bd (tx := tx) (tl := tl) (p := pL tx tl p) (by omega) h2.2
  rcases Classical.em (dK tx tl p) with q | q
  · unfold pE; rw [tif_t q]; omega
  · unfold pE; rw [tif_f q]; omega
theorem itN_bd {tx : Int → Int} {tl p : Int} (h0 : 0 ≤ p) (h1 : p ≤ tl) : p ≤ itN tx tl p ∧ itN tx tl p ≤ tl := by
  have h2 := pE_bd (tx := tx) h0 h1
  have h3 := tE_bd (tx := tx) (tl := tl) (p := pE tx tl p) (by omega) h2.2
  unfold itN
  omega
theorem sqP_bd {tx : Int → Int} {tl : Int} (h : 0 ≤ tl) (k : Nat) : 0 ≤ sqP tx tl k ∧ sqP tx tl k ≤ tl := by
  induction k with
  | zero => exact ⟨Int.le_refl _, h⟩
  | succ k ih =>
    have h2 := itN_bd (tx := tx) ih.1 ih.2
    show 0 ≤ itN tx tl _ ∧ itN tx tl _ ≤ tl
    omega
/-! runs of letters and digits -/
theorem tok_kd {tx : Int → Int} {tl p : Int} (h0 : 0 ≤ p) (h1 : p ≤ tl) {k : Int} (hk : tK tx tl p = k) (k1 : k = 1 ∨ k = 2) : ∀ x : Int, tS tx tl p ≤ x → x < tE tx tl p → kd tx tl x = k := by
  have hb := tE_bd (tx := tx) h0 h1
  have hlt : tS tx tl p < tl := by
    have := hb.2.2.2 (by omega)
    omega
  have e : tE tx tl p = rnE tx tl (tS tx tl p) (tK tx tl p) := by
    unfold tE
    rw [tif_f (by omega), tif_f (by omega)]
  obtain ⟨r1, r2⟩ := rnE_is (tx := tx) (k := tK tx tl p) hlt (by omega)
  intro x x0 x1
  rw [e] at x1
  rcases Int.lt_or_le (tS tx tl p) x with z | z
  · have := r1.2.2 x (by omega) x1
    rw [hk] at this
    exact Classical.byContradiction this
  · have : x = tS tx tl p := by omega
    rw [this]
    exact hk
theorem tok_let {tx : Int → Int} {tl p : Int} (h0 : 0 ≤ p) (h1 : p ≤ tl) (hk : tK tx tl p = 1) : ∀ x : Int, tS tx tl p ≤ x → x < tE tx tl p → 97 ≤ tx x ∧ tx x ≤ 122 := fun x x0 x1 => by
  have h := tok_kd h0 h1 hk (Or.inl rfl) x x0 x1
  rcases kd_cases tx tl x with ⟨q, z⟩ | ⟨q, z⟩ | ⟨q, z⟩ | ⟨q, z⟩ <;> omega
theorem tok_dig {tx : Int → Int} {tl p : Int} (h0 : 0 ≤ p) (h1 : p ≤ tl) (hk : tK tx tl p = 2) : ∀ x : Int, tS tx tl p ≤ x → x < tE tx tl p → 48 ≤ tx x ∧ tx x ≤ 57 := fun x x0 x1 => by
  have h := tok_kd h0 h1 hk (Or.inr rfl) x x0 x1
  rcases kd_cases tx tl x with ⟨q, z⟩ | ⟨q, z⟩ | ⟨q, z⟩ | ⟨q, z⟩ <;> omega
theorem tV_bd {tx : Int → Int} {tl p : Int} (h0 : 0 ≤ p) (h1 : p ≤ tl) (hk : tK tx tl p = 2) : 0 ≤ tV tx tl p ∧ tV tx tl p ≤ 1000 := by
  have hb := tE_bd (tx := tx) h0 h1
  exact nv_bd (fun k k0 k1 => tok_dig h0 h1 hk _ (by omega) (by omega))
/-! the reference's tokens and values -/
noncomputable def rK (tx : Int → Int) (tl p : Int) : Int := if tK tx tl p = 0 then 4 else if tK tx tl p = 1 then 0 else if tK tx tl p = 2 then tif (tZ tx tl p) 3 1 else if tx (tS tx tl p) = 59 then 2 else 3
noncomputable def rV (tx : Int → Int) (tl p : Int) : Int := if tK tx tl p = 1 then wv tx (tS tx tl p) (tE tx tl p - tS tx tl p).toNat else if tK tx tl p = 2 then wn tx (tS tx tl p) (tE tx tl p - tS tx tl p).toNat else 0
theorem tK_bd (tx : Int → Int) (tl p : Int) : 0 ≤ tK tx tl p ∧ tK tx tl p ≤ 3 := kd_bd _ _ _
theorem rK_0 {tx : Int → Int} {tl p : Int} (h : tK tx tl p = 0) : rK tx tl p = 4 := if_pos h
theorem rK_1 {tx : Int → Int} {tl p : Int} (h : tK tx tl p = 1) : rK tx tl p = 0 := by unfold rK; rw [if_neg (by omega), if_pos h]
theorem rK_2z {tx : Int → Int} {tl p : Int} (h : tK tx tl p = 2) (hz : tZ tx tl p) : rK tx tl p = 3 := by unfold rK; rw [if_neg (by omega), if_neg (by omega), if_pos h, tif_t hz]
theorem rK_2 {tx : Int → Int} {tl p : Int} (h : tK tx tl p = 2) (hz : ¬ tZ tx tl p) : rK tx tl p = 1 := by unfold rK; rw [if_neg (by omega), if_neg (by omega), if_pos h, tif_f hz]
theorem rK_3e {tx : Int → Int} {tl p : Int} (h : tK tx tl p = 3) (hz : tx (tS tx tl p) = 59) : rK tx tl p = 2 := by unfold rK; rw [if_neg (by omega), if_neg (by omega), if_neg (by omega), if_pos hz]
theorem rK_3 {tx : Int → Int} {tl p : Int} (h : tK tx tl p = 3) (hz : tx (tS tx tl p) ≠ 59) : rK tx tl p = 3 := by unfold rK; rw [if_neg (by omega), if_neg (by omega), if_neg (by omega), if_neg hz]
theorem rK_cases (tx : Int → Int) (tl p : Int) : (tK tx tl p = 0 ∧ rK tx tl p = 4) ∨ (tK tx tl p = 1 ∧ rK tx tl p = 0) ∨ (tK tx tl p = 2 ∧ tZ tx tl p ∧ rK tx tl p = 3) ∨ (tK tx tl p = 2 ∧ ¬ tZ tx tl p ∧ rK tx tl p = 1) ∨ (tK tx tl p = 3 ∧ tx (tS tx tl p) = 59 ∧ rK tx tl p = 2) ∨ (tK tx tl p = 3 ∧ tx (tS tx tl p) ≠ 59 ∧ rK tx tl p = 3) := by
  have hb := tK_bd tx tl p
  rcases (show tK tx tl p = 0 ∨ tK tx tl p = 1 ∨ tK tx tl p = 2 ∨ tK tx tl p = 3 by omega) with e | e | e | e
  · exact Or.inl ⟨e, rK_0 e⟩
  · exact Or.inr (Or.inl ⟨e, rK_1 e⟩)
  · rcases Classical.em (tZ tx tl p) with z | z
    · exact Or.inr (Or.inr (Or.inl ⟨e, z, rK_2z e z⟩))
    · exact Or.inr (Or.inr (Or.inr (Or.inl ⟨e, z, rK_2 e z⟩)))
  · rcases Classical.em (tx (tS tx tl p) = 59) with z | z
    · exact Or.inr (Or.inr (Or.inr (Or.inr (Or.inl ⟨e, z, rK_3e e z⟩))))
    · exact Or.inr (Or.inr (Or.inr (Or.inr (Or.inr ⟨e, z, rK_3 e z⟩))))
theorem rK_bd (tx : Int → Int) (tl p : Int) : 0 ≤ rK tx tl p ∧ rK tx tl p ≤ 4 := by
  rcases rK_cases tx tl p with h | h | h | h | h | h <;> omega
theorem rK_end {tx : Int → Int} {tl p : Int} : rK tx tl p = 4 ↔ tK tx tl p = 0 := by
  rcases rK_cases tx tl p with h | h | h | h | h | h <;> omega
theorem rK_fin {tx : Int → Int} {tl p : Int} : rK tx tl p = 2 ↔ tF tx tl p := by
  unfold tF
  rcases rK_cases tx tl p with h | h | h | h | h | h <;> omega
theorem rV_w {tx : Int → Int} {tl p : Int} (h : tK tx tl p = 1) : rV tx tl p = wv tx (tS tx tl p) (tE tx tl p - tS tx tl p).toNat := if_pos h
theorem rV_n {tx : Int → Int} {tl p : Int} (h : tK tx tl p = 2) : rV tx tl p = wn tx (tS tx tl p) (tE tx tl p - tS tx tl p).toNat := by unfold rV; rw [if_neg (by omega), if_pos h]
theorem rV_o {tx : Int → Int} {tl p : Int} (h : tK tx tl p ≠ 1) (h2 : tK tx tl p ≠ 2) : rV tx tl p = 0 := by unfold rV; rw [if_neg h, if_neg h2]
theorem rV_bd {tx : Int → Int} {tl p : Int} (h0 : 0 ≤ p) (h1 : p ≤ tl) : 0 ≤ rV tx tl p ∧ rV tx tl p ≤ 282429536480 := by
  have hb := tE_bd (tx := tx) h0 h1
  rcases (show tK tx tl p = 1 ∨ tK tx tl p = 2 ∨ (tK tx tl p ≠ 1 ∧ tK tx tl p ≠ 2) by omega) with e | e | e
  · rw [rV_w e]
    exact wv_bd (fun k k0 k1 => tok_let h0 h1 e _ (by omega) (by omega))
  · rw [rV_n e]
    have := (wn_nv (tx := tx) (s := tS tx tl p) (n := (tE tx tl p - tS tx tl p).toNat) (fun k k0 k1 => tok_dig h0 h1 e _ (by omega) (by omega))).1
    omega
  · rw [rV_o e.1 e.2]
    decide
theorem rN {tx : Int → Int} {tl p lo hi : Int} (h0 : 0 ≤ p) (h1 : p ≤ tl) (hl : 0 ≤ lo) (hh : hi < 1000) : ((rK tx tl p = 1 ∧ lo ≤ rV tx tl p ∧ rV tx tl p ≤ hi) ↔ tN tx tl p lo hi) ∧ (tN tx tl p lo hi → rV tx tl p = tV tx tl p) := by
  have hb := tE_bd (tx := tx) h0 h1
  unfold tN
  rcases rK_cases tx tl p with h | h | h | h | h | h
  · exact ⟨⟨fun z => by omega, fun z => by omega⟩, fun z => by omega⟩
  · exact ⟨⟨fun z => by omega, fun z => by omega⟩, fun z => by omega⟩
  · exact ⟨⟨fun z => by omega, fun z => absurd h.2.1 z.2.1⟩, fun z => absurd h.2.1 z.2.1⟩
  · have hw := (wn_nv (tx := tx) (s := tS tx tl p) (n := (tE tx tl p - tS tx tl p).toNat) (fun k k0 k1 => tok_dig h0 h1 h.1 _ (by omega) (by omega))).2
    rw [rV_n h.1]
    unfold tV
    refine ⟨⟨fun z => ⟨h.1, h.2.1, by omega, by omega⟩, fun z => ?_⟩, fun z => ?_⟩
    · have z1 := z.2.2.1
      have z2 := z.2.2.2
      exact ⟨h.2.2, by omega, by omega⟩
    · have z1 := z.2.2.1
      have z2 := z.2.2.2
      omega
  · exact ⟨⟨fun z => by omega, fun z => by omega⟩, fun z => by omega⟩
  · exact ⟨⟨fun z => by omega, fun z => by omega⟩, fun z => by omega⟩
theorem wv_00 {tx : Int → Int} {s : Int} {n : Nat} (hl : ∀ k : Int, 0 ≤ k → k < (n : Int) → 97 ≤ tx (s + k) ∧ tx (s + k) ≤ 122) (h8 : n ≤ 8) (h : wv tx s n = 0) : n = 0 := by
  cases n with
  | zero => rfl
  | succ m =>
    rw [wv_s, if_pos (by omega)] at h
    have h1 := (wv_bd (tx := tx) (s := s) (n := m) (fun k k0 k1 => hl k k0 (by omega))).1
    have h2 := hl (m : Int) (by omega) (by omega)
    omega
theorem wrdC {tx : Int → Int} {s e : Int} (hse : s ≤ e) (hl : ∀ x : Int, s ≤ x → x < e → 97 ≤ tx x ∧ tx x ≤ 122) : wv tx s (e - s).toNat = 1388001776 ↔ isW tx s e wdC := by
  have hl0 : ∀ k : Int, 0 ≤ k → k < (((e - s).toNat : Nat) : Int) → 97 ≤ tx (s + k) ∧ tx (s + k) ≤ 122 := fun k k0 k1 => hl _ (by omega) (by omega)
  constructor
  · intro h
    obtain ⟨m0, e0, b0, v0, c0⟩ := wv_peel (V := 1388001776) hl0 (by decide) h
    have h0 : wv tx s m0 = 51407473 := v0
    have l0 : ∀ k : Int, 0 ≤ k → k < (m0 : Int) → 97 ≤ tx (s + k) ∧ tx (s + k) ≤ 122 := fun k k0 k1 => hl0 k k0 (by omega)
    obtain ⟨m1, e1, b1, v1, c1⟩ := wv_peel (V := 51407473) l0 (by decide) h0
    have h1 : wv tx s m1 = 1903980 := v1
    have l1 : ∀ k : Int, 0 ≤ k → k < (m1 : Int) → 97 ≤ tx (s + k) ∧ tx (s + k) ≤ 122 := fun k k0 k1 => hl0 k k0 (by omega)
    obtain ⟨m2, e2, b2, v2, c2⟩ := wv_peel (V := 1903980) l1 (by decide) h1
    have h2 : wv tx s m2 = 70517 := v2
    have l2 : ∀ k : Int, 0 ≤ k → k < (m2 : Int) → 97 ≤ tx (s + k) ∧ tx (s + k) ≤ 122 := fun k k0 k1 => hl0 k k0 (by omega)
    obtain ⟨m3, e3, b3, v3, c3⟩ := wv_peel (V := 70517) l2 (by decide) h2
    have h3 : wv tx s m3 = 2611 := v3
    have l3 : ∀ k : Int, 0 ≤ k → k < (m3 : Int) → 97 ≤ tx (s + k) ∧ tx (s + k) ≤ 122 := fun k k0 k1 => hl0 k k0 (by omega)
    obtain ⟨m4, e4, b4, v4, c4⟩ := wv_peel (V := 2611) l3 (by decide) h3
    have h4 : wv tx s m4 = 96 := v4
    have l4 : ∀ k : Int, 0 ≤ k → k < (m4 : Int) → 97 ≤ tx (s + k) ∧ tx (s + k) ≤ 122 := fun k k0 k1 => hl0 k k0 (by omega)
    obtain ⟨m5, e5, b5, v5, c5⟩ := wv_peel (V := 96) l4 (by decide) h4
    have h5 : wv tx s m5 = 3 := v5
    have l5 : ∀ k : Int, 0 ≤ k → k < (m5 : Int) → 97 ≤ tx (s + k) ∧ tx (s + k) ≤ 122 := fun k k0 k1 => hl0 k k0 (by omega)
    obtain ⟨m6, e6, b6, v6, c6⟩ := wv_peel (V := 3) l5 (by decide) h5
    have h6 : wv tx s m6 = 0 := v6
    have l6 : ∀ k : Int, 0 ≤ k → k < (m6 : Int) → 97 ≤ tx (s + k) ∧ tx (s + k) ≤ 122 := fun k k0 k1 => hl0 k k0 (by omega)
    have z := wv_00 l6 (by omega) h6
    have f6 : m6 = 0 := by omega
    have f5 : m5 = 1 := by omega
    have f4 : m4 = 2 := by omega
    have f3 : m3 = 3 := by omega
    have f2 : m2 = 4 := by omega
    have f1 : m1 = 5 := by omega
    have f0 : m0 = 6 := by omega
    rw [f0] at c0
    have d6 : tx (s + ((6 : Nat) : Int)) = 101 := c0
    rw [f1] at c1
    have d5 : tx (s + ((5 : Nat) : Int)) = 109 := c1
    rw [f2] at c2
    have d4 : tx (s + ((4 : Nat) : Int)) = 117 := c2
    rw [f3] at c3
    have d3 : tx (s + ((3 : Nat) : Int)) = 116 := c3
    rw [f4] at c4
    have d2 : tx (s + ((2 : Nat) : Int)) = 115 := c4
    rw [f5] at c5
    have d1 : tx (s + ((1 : Nat) : Int)) = 111 := c5
    rw [f6] at c6
    have d0 : tx (s + ((0 : Nat) : Int)) = 99 := c6
    refine ⟨by show e - s = 7; omega, fun k hk => ?_⟩
    have hk : k < 7 := hk
    rcases (show k = 0 ∨ k = 1 ∨ k = 2 ∨ k = 3 ∨ k = 4 ∨ k = 5 ∨ k = 6 by omega) with z | z | z | z | z | z | z
    · rw [z]; exact d0
    · rw [z]; exact d1
    · rw [z]; exact d2
    · rw [z]; exact d3
    · rw [z]; exact d4
    · rw [z]; exact d5
    · rw [z]; exact d6
  · rintro ⟨h1, h2⟩
    have h1 : e - s = 7 := h1
    have e0 : (e - s).toNat = 7 := by omega
    rw [e0]
    have d0 : tx (s + ((0 : Nat) : Int)) = 99 := h2 0 (by decide)
    have q1 : wv tx s 1 = 27 * wv tx s 0 + tx (s + ((0 : Nat) : Int)) - 97 + 1 := (wv_s tx s 0).trans (if_pos (by decide))
    have d1 : tx (s + ((1 : Nat) : Int)) = 111 := h2 1 (by decide)
    have q2 : wv tx s 2 = 27 * wv tx s 1 + tx (s + ((1 : Nat) : Int)) - 97 + 1 := (wv_s tx s 1).trans (if_pos (by decide))
    have d2 : tx (s + ((2 : Nat) : Int)) = 115 := h2 2 (by decide)
    have q3 : wv tx s 3 = 27 * wv tx s 2 + tx (s + ((2 : Nat) : Int)) - 97 + 1 := (wv_s tx s 2).trans (if_pos (by decide))
    have d3 : tx (s + ((3 : Nat) : Int)) = 116 := h2 3 (by decide)
    have q4 : wv tx s 4 = 27 * wv tx s 3 + tx (s + ((3 : Nat) : Int)) - 97 + 1 := (wv_s tx s 3).trans (if_pos (by decide))
    have d4 : tx (s + ((4 : Nat) : Int)) = 117 := h2 4 (by decide)
    have q5 : wv tx s 5 = 27 * wv tx s 4 + tx (s + ((4 : Nat) : Int)) - 97 + 1 := (wv_s tx s 4).trans (if_pos (by decide))
    have d5 : tx (s + ((5 : Nat) : Int)) = 109 := h2 5 (by decide)
    have q6 : wv tx s 6 = 27 * wv tx s 5 + tx (s + ((5 : Nat) : Int)) - 97 + 1 := (wv_s tx s 5).trans (if_pos (by decide))
    have d6 : tx (s + ((6 : Nat) : Int)) = 101 := h2 6 (by decide)
    have q7 : wv tx s 7 = 27 * wv tx s 6 + tx (s + ((6 : Nat) : Int)) - 97 + 1 := (wv_s tx s 6).trans (if_pos (by decide))
    have q0 : wv tx s 0 = 0 := rfl
    omega
theorem rWC {tx : Int → Int} {tl p : Int} (h0 : 0 ≤ p) (h1 : p ≤ tl) : (rK tx tl p = 0 ∧ rV tx tl p = 1388001776) ↔ tW tx tl p wdC := by
  have hb := tE_bd (tx := tx) h0 h1
  unfold tW
  by_cases h : tK tx tl p = 1
  · rw [rV_w h, wrdC (by omega) (tok_let h0 h1 h)]
    exact ⟨fun z => ⟨h, z.2⟩, fun z => ⟨rK_1 h, z.2⟩⟩
  · exact ⟨fun z => by rcases rK_cases tx tl p with q | q | q | q | q | q <;> omega, fun z => absurd z.1 h⟩
theorem wrdA {tx : Int → Int} {s e : Int} (hse : s ≤ e) (hl : ∀ x : Int, s ≤ x → x < e → 97 ≤ tx x ∧ tx x ≤ 122) : wv tx s (e - s).toNat = 605493 ↔ isW tx s e wdA := by
  have hl0 : ∀ k : Int, 0 ≤ k → k < (((e - s).toNat : Nat) : Int) → 97 ≤ tx (s + k) ∧ tx (s + k) ≤ 122 := fun k k0 k1 => hl _ (by omega) (by omega)
  constructor
  · intro h
    obtain ⟨m0, e0, b0, v0, c0⟩ := wv_peel (V := 605493) hl0 (by decide) h
    have h0 : wv tx s m0 = 22425 := v0
    have l0 : ∀ k : Int, 0 ≤ k → k < (m0 : Int) → 97 ≤ tx (s + k) ∧ tx (s + k) ≤ 122 := fun k k0 k1 => hl0 k k0 (by omega)
    obtain ⟨m1, e1, b1, v1, c1⟩ := wv_peel (V := 22425) l0 (by decide) h0
    have h1 : wv tx s m1 = 830 := v1
    have l1 : ∀ k : Int, 0 ≤ k → k < (m1 : Int) → 97 ≤ tx (s + k) ∧ tx (s + k) ≤ 122 := fun k k0 k1 => hl0 k k0 (by omega)
    obtain ⟨m2, e2, b2, v2, c2⟩ := wv_peel (V := 830) l1 (by decide) h1
    have h2 : wv tx s m2 = 30 := v2
    have l2 : ∀ k : Int, 0 ≤ k → k < (m2 : Int) → 97 ≤ tx (s + k) ∧ tx (s + k) ≤ 122 := fun k k0 k1 => hl0 k k0 (by omega)
    obtain ⟨m3, e3, b3, v3, c3⟩ := wv_peel (V := 30) l2 (by decide) h2
    have h3 : wv tx s m3 = 1 := v3
    have l3 : ∀ k : Int, 0 ≤ k → k < (m3 : Int) → 97 ≤ tx (s + k) ∧ tx (s + k) ≤ 122 := fun k k0 k1 => hl0 k k0 (by omega)
    obtain ⟨m4, e4, b4, v4, c4⟩ := wv_peel (V := 1) l3 (by decide) h3
    have h4 : wv tx s m4 = 0 := v4
    have l4 : ∀ k : Int, 0 ≤ k → k < (m4 : Int) → 97 ≤ tx (s + k) ∧ tx (s + k) ≤ 122 := fun k k0 k1 => hl0 k k0 (by omega)
    have z := wv_00 l4 (by omega) h4
    have f4 : m4 = 0 := by omega
    have f3 : m3 = 1 := by omega
    have f2 : m2 = 2 := by omega
    have f1 : m1 = 3 := by omega
    have f0 : m0 = 4 := by omega
    rw [f0] at c0
    have d4 : tx (s + ((4 : Nat) : Int)) = 114 := c0
    rw [f1] at c1
    have d3 : tx (s + ((3 : Nat) : Int)) = 111 := c1
    rw [f2] at c2
    have d2 : tx (s + ((2 : Nat) : Int)) = 116 := c2
    rw [f3] at c3
    have d1 : tx (s + ((1 : Nat) : Int)) = 99 := c3
    rw [f4] at c4
    have d0 : tx (s + ((0 : Nat) : Int)) = 97 := c4
    refine ⟨by show e - s = 5; omega, fun k hk => ?_⟩
    have hk : k < 5 := hk
    rcases (show k = 0 ∨ k = 1 ∨ k = 2 ∨ k = 3 ∨ k = 4 by omega) with z | z | z | z | z
    · rw [z]; exact d0
    · rw [z]; exact d1
    · rw [z]; exact d2
    · rw [z]; exact d3
    · rw [z]; exact d4
  · rintro ⟨h1, h2⟩
    have h1 : e - s = 5 := h1
    have e0 : (e - s).toNat = 5 := by omega
    rw [e0]
    have d0 : tx (s + ((0 : Nat) : Int)) = 97 := h2 0 (by decide)
    have q1 : wv tx s 1 = 27 * wv tx s 0 + tx (s + ((0 : Nat) : Int)) - 97 + 1 := (wv_s tx s 0).trans (if_pos (by decide))
    have d1 : tx (s + ((1 : Nat) : Int)) = 99 := h2 1 (by decide)
    have q2 : wv tx s 2 = 27 * wv tx s 1 + tx (s + ((1 : Nat) : Int)) - 97 + 1 := (wv_s tx s 1).trans (if_pos (by decide))
    have d2 : tx (s + ((2 : Nat) : Int)) = 116 := h2 2 (by decide)
    have q3 : wv tx s 3 = 27 * wv tx s 2 + tx (s + ((2 : Nat) : Int)) - 97 + 1 := (wv_s tx s 2).trans (if_pos (by decide))
    have d3 : tx (s + ((3 : Nat) : Int)) = 111 := h2 3 (by decide)
    have q4 : wv tx s 4 = 27 * wv tx s 3 + tx (s + ((3 : Nat) : Int)) - 97 + 1 := (wv_s tx s 3).trans (if_pos (by decide))
    have d4 : tx (s + ((4 : Nat) : Int)) = 114 := h2 4 (by decide)
    have q5 : wv tx s 5 = 27 * wv tx s 4 + tx (s + ((4 : Nat) : Int)) - 97 + 1 := (wv_s tx s 4).trans (if_pos (by decide))
    have q0 : wv tx s 0 = 0 := rfl
    omega
theorem rWA {tx : Int → Int} {tl p : Int} (h0 : 0 ≤ p) (h1 : p ≤ tl) : (rK tx tl p = 0 ∧ rV tx tl p = 605493) ↔ tW tx tl p wdA := by
  have hb := tE_bd (tx := tx) h0 h1
  unfold tW
  by_cases h : tK tx tl p = 1
  · rw [rV_w h, wrdA (by omega) (tok_let h0 h1 h)]
    exact ⟨fun z => ⟨h, z.2⟩, fun z => ⟨rK_1 h, z.2⟩⟩
  · exact ⟨fun z => by rcases rK_cases tx tl p with q | q | q | q | q | q <;> omega, fun z => absurd z.1 h⟩
theorem wrdD {tx : Int → Int} {s e : Int} (hse : s ≤ e) (hl : ∀ x : Int, s ≤ x → x < e → 97 ≤ tx x ∧ tx x ≤ 122) : wv tx s (e - s).toNat = 79958 ↔ isW tx s e wdD := by
  have hl0 : ∀ k : Int, 0 ≤ k → k < (((e - s).toNat : Nat) : Int) → 97 ≤ tx (s + k) ∧ tx (s + k) ≤ 122 := fun k k0 k1 => hl _ (by omega) (by omega)
  constructor
  · intro h
    obtain ⟨m0, e0, b0, v0, c0⟩ := wv_peel (V := 79958) hl0 (by decide) h
    have h0 : wv tx s m0 = 2961 := v0
    have l0 : ∀ k : Int, 0 ≤ k → k < (m0 : Int) → 97 ≤ tx (s + k) ∧ tx (s + k) ≤ 122 := fun k k0 k1 => hl0 k k0 (by omega)
    obtain ⟨m1, e1, b1, v1, c1⟩ := wv_peel (V := 2961) l0 (by decide) h0
    have h1 : wv tx s m1 = 109 := v1
    have l1 : ∀ k : Int, 0 ≤ k → k < (m1 : Int) → 97 ≤ tx (s + k) ∧ tx (s + k) ≤ 122 := fun k k0 k1 => hl0 k k0 (by omega)
    obtain ⟨m2, e2, b2, v2, c2⟩ := wv_peel (V := 109) l1 (by decide) h1
    have h2 : wv tx s m2 = 4 := v2
    have l2 : ∀ k : Int, 0 ≤ k → k < (m2 : Int) → 97 ≤ tx (s + k) ∧ tx (s + k) ≤ 122 := fun k k0 k1 => hl0 k k0 (by omega)
    obtain ⟨m3, e3, b3, v3, c3⟩ := wv_peel (V := 4) l2 (by decide) h2
    have h3 : wv tx s m3 = 0 := v3
    have l3 : ∀ k : Int, 0 ≤ k → k < (m3 : Int) → 97 ≤ tx (s + k) ∧ tx (s + k) ≤ 122 := fun k k0 k1 => hl0 k k0 (by omega)
    have z := wv_00 l3 (by omega) h3
    have f3 : m3 = 0 := by omega
    have f2 : m2 = 1 := by omega
    have f1 : m1 = 2 := by omega
    have f0 : m0 = 3 := by omega
    rw [f0] at c0
    have d3 : tx (s + ((3 : Nat) : Int)) = 107 := c0
    rw [f1] at c1
    have d2 : tx (s + ((2 : Nat) : Int)) = 114 := c1
    rw [f2] at c2
    have d1 : tx (s + ((1 : Nat) : Int)) = 97 := c2
    rw [f3] at c3
    have d0 : tx (s + ((0 : Nat) : Int)) = 100 := c3
    refine ⟨by show e - s = 4; omega, fun k hk => ?_⟩
    have hk : k < 4 := hk
    rcases (show k = 0 ∨ k = 1 ∨ k = 2 ∨ k = 3 by omega) with z | z | z | z
    · rw [z]; exact d0
    · rw [z]; exact d1
    · rw [z]; exact d2
    · rw [z]; exact d3
  · rintro ⟨h1, h2⟩
    have h1 : e - s = 4 := h1
    have e0 : (e - s).toNat = 4 := by omega
    rw [e0]
    have d0 : tx (s + ((0 : Nat) : Int)) = 100 := h2 0 (by decide)
    have q1 : wv tx s 1 = 27 * wv tx s 0 + tx (s + ((0 : Nat) : Int)) - 97 + 1 := (wv_s tx s 0).trans (if_pos (by decide))
    have d1 : tx (s + ((1 : Nat) : Int)) = 97 := h2 1 (by decide)
    have q2 : wv tx s 2 = 27 * wv tx s 1 + tx (s + ((1 : Nat) : Int)) - 97 + 1 := (wv_s tx s 1).trans (if_pos (by decide))
    have d2 : tx (s + ((2 : Nat) : Int)) = 114 := h2 2 (by decide)
    have q3 : wv tx s 3 = 27 * wv tx s 2 + tx (s + ((2 : Nat) : Int)) - 97 + 1 := (wv_s tx s 2).trans (if_pos (by decide))
    have d3 : tx (s + ((3 : Nat) : Int)) = 107 := h2 3 (by decide)
    have q4 : wv tx s 4 = 27 * wv tx s 3 + tx (s + ((3 : Nat) : Int)) - 97 + 1 := (wv_s tx s 3).trans (if_pos (by decide))
    have q0 : wv tx s 0 = 0 := rfl
    omega
theorem rWD {tx : Int → Int} {tl p : Int} (h0 : 0 ≤ p) (h1 : p ≤ tl) : (rK tx tl p = 0 ∧ rV tx tl p = 79958) ↔ tW tx tl p wdD := by
  have hb := tE_bd (tx := tx) h0 h1
  unfold tW
  by_cases h : tK tx tl p = 1
  · rw [rV_w h, wrdD (by omega) (tok_let h0 h1 h)]
    exact ⟨fun z => ⟨h, z.2⟩, fun z => ⟨rK_1 h, z.2⟩⟩
  · exact ⟨fun z => by rcases rK_cases tx tl p with q | q | q | q | q | q <;> omega, fun z => absurd z.1 h⟩
/-! the reference's cell 0 while it reads: next, start, token, worth, isWrong -/
def rX (μ : Nat → Int → Int) (a b c d w : Int) : Nat → Int → Int := fun k => if k = 0 then (fun j => if j = 3 then a else if j = 4 then b else if j = 5 then c else if j = 6 then d else if j = 7 then w else μ 0 j) else μ k
section RX
variable {μ : Nat → Int → Int} {a b c d w v : Int}
theorem rX_0 : rX μ a b c d w 0 0 = μ 0 0 := rfl
theorem rX_n : rX μ a b c d w 0 1 = μ 0 1 := rfl
theorem rX_2 : rX μ a b c d w 0 2 = μ 0 2 := rfl
theorem rX_3 : rX μ a b c d w 0 3 = a := rfl
theorem rX_4 : rX μ a b c d w 0 4 = b := rfl
theorem rX_5 : rX μ a b c d w 0 5 = c := rfl
theorem rX_6 : rX μ a b c d w 0 6 = d := rfl
theorem rX_7 : rX μ a b c d w 0 7 = w := rfl
theorem rX_k {k : Nat} (h : k ≠ 0) : rX μ a b c d w k = μ k := if_neg h
theorem su_0 (i : Int) : su μ 0 i v = fun k => if k = 0 then (fun j => if j = i then v else μ 0 j) else μ k := by
  funext k
  by_cases h : k = 0
  · subst h; rw [if_pos rfl]; unfold su; rw [va_up_self]; rfl
  · rw [if_neg h]; exact su_ne h _ _
theorem rX_s3 : su (rX μ a b c d w) 0 3 v = rX μ v b c d w := by
  rw [su_0]
  funext k
  by_cases h : k = 0
  · subst h
    rw [if_pos rfl]
    funext j
    unfold rX
    rw [if_pos rfl, if_pos rfl]
    repeat' split
    all_goals first | rfl | omega
  · rw [if_neg h, rX_k h, rX_k h]
theorem rX_s4 : su (rX μ a b c d w) 0 4 v = rX μ a v c d w := by
  rw [su_0]
  funext k
  by_cases h : k = 0
  · subst h
    rw [if_pos rfl]
    funext j
    unfold rX
    rw [if_pos rfl, if_pos rfl]
    repeat' split
    all_goals first | rfl | omega
  · rw [if_neg h, rX_k h, rX_k h]
theorem rX_s5 : su (rX μ a b c d w) 0 5 v = rX μ a b v d w := by
  rw [su_0]
  funext k
  by_cases h : k = 0
  · subst h
    rw [if_pos rfl]
    funext j
    unfold rX
    rw [if_pos rfl, if_pos rfl]
    repeat' split
    all_goals first | rfl | omega
  · rw [if_neg h, rX_k h, rX_k h]
theorem rX_s6 : su (rX μ a b c d w) 0 6 v = rX μ a b c v w := by
  rw [su_0]
  funext k
  by_cases h : k = 0
  · subst h
    rw [if_pos rfl]
    funext j
    unfold rX
    rw [if_pos rfl, if_pos rfl]
    repeat' split
    all_goals first | rfl | omega
  · rw [if_neg h, rX_k h, rX_k h]
theorem rX_s7 : su (rX μ a b c d w) 0 7 v = rX μ a b c d v := by
  rw [su_0]
  funext k
  by_cases h : k = 0
  · subst h
    rw [if_pos rfl]
    funext j
    unfold rX
    rw [if_pos rfl, if_pos rfl]
    repeat' split
    all_goals first | rfl | omega
  · rw [if_neg h, rX_k h, rX_k h]
theorem rX_id : rX μ (μ 0 3) (μ 0 4) (μ 0 5) (μ 0 6) (μ 0 7) = μ := by
  funext k
  by_cases h : k = 0
  · subst h
    unfold rX
    rw [if_pos rfl]
    funext j
    repeat' split
    all_goals first | rfl | (next h => rw [h])
  · exact rX_k h
theorem rX_x {a' b' c' d' w' : Int} : rX (rX μ a b c d w) a' b' c' d' w' = rX μ a' b' c' d' w' := by
  funext k
  by_cases h : k = 0
  · subst h
    unfold rX
    rw [if_pos rfl, if_pos rfl, if_pos rfl]
    funext j
    repeat' split
    all_goals rfl
  · rw [rX_k h, rX_k h, rX_k h]
theorem rX_up {k : Nat} (h : k ≠ 0) (F : Int → Int) : va_up (rX μ a b c d w) k F = rX (va_up μ k F) a b c d w := by
  funext j
  by_cases e : j = 0
  · subst e
    rw [va_up_ne _ _ (Ne.symm h)]
    unfold rX
    rw [if_pos rfl, if_pos rfl, va_up_ne _ _ (Ne.symm h)]
  · rw [rX_k e]
    by_cases z : j = k
    · subst z; rw [va_up_self, va_up_self]
    · rw [va_up_ne _ _ z, va_up_ne _ _ z, rX_k e]
end RX
noncomputable abbrev rM (tx : Int → Int) (tl : Int) (μ : Nat → Int → Int) (q w : Int) : Nat → Int → Int := rX μ (tE tx tl q) (tS tx tl q) (rK tx tl q) (rV tx tl q) w
/-- what the reference looks at: the sign at q, or -1 behind the end -/
def lkc (tx : Int → Int) (tl q : Int) : Int := if q < tl then tx q else -1
theorem hr_cases (tx : Int → Int) (tl q : Int) : (q < tl ∧ lkc tx tl q = tx q) ∨ (tl ≤ q ∧ lkc tx tl q = -1) := by
  unfold lkc
  split
  · next h => exact Or.inl ⟨h, rfl⟩
  · next h => exact Or.inr ⟨by omega, rfl⟩
theorem tok_at {tx : Int → Int} {tl p q : Int} (h0 : p ≤ q) (h1 : nsp tx tl q) (h2 : ∀ x : Int, p ≤ x → x < q → ¬ nsp tx tl x) : tS tx tl p = q := lsq_of ⟨h0, h1, h2⟩
theorem tok_run {tx : Int → Int} {tl p q e k : Int} (hs : tS tx tl p = q) (hk : tK tx tl p = k) (k1 : k = 1 ∨ k = 2) (h0 : q + 1 ≤ e) (h1 : kd tx tl e ≠ k) (h2 : ∀ x : Int, q + 1 ≤ x → x < e → kd tx tl x = k) : tE tx tl p = e := by
  unfold tE
  rw [tif_f (by omega), tif_f (by omega), hs, hk]
  exact lsq_of ⟨h0, h1, fun x x0 x1 z => z (h2 x x0 x1)⟩
theorem tok_0 {tx : Int → Int} {tl p q : Int} (hs : tS tx tl p = q) (h : tl ≤ q) : tK tx tl p = 0 ∧ tE tx tl p = q := by
  have e : tK tx tl p = 0 := by unfold tK; rw [hs]; exact kd_0 h
  refine ⟨e, ?_⟩
  unfold tE
  rw [tif_t e, hs]
theorem tok_3 {tx : Int → Int} {tl p q : Int} (hs : tS tx tl p = q) (h : kd tx tl q = 3) : tK tx tl p = 3 ∧ tE tx tl p = q + 1 := by
  have e : tK tx tl p = 3 := by unfold tK; rw [hs]; exact h
  refine ⟨e, ?_⟩
  unfold tE
  rw [tif_f (by omega), tif_t e, hs]
theorem tok_k {tx : Int → Int} {tl p q : Int} (hs : tS tx tl p = q) : tK tx tl p = kd tx tl q := by unfold tK; rw [hs]
theorem fa_q {P : Int → Prop} {p q : Int} (h : ∀ x : Int, p ≤ x → x < q → P x) (hq : P q) : ∀ x : Int, p ≤ x → x < q + 1 → P x := fun x x0 x1 => by
  rcases Int.lt_or_le x q with z | z
  · exact h x x0 z
  · rw [show x = q by omega]; exact hq
