/-! when a call is refused, and with which answer (0: it is not) -/
theorem tft {P : Prop} {a b : Int} (h : P) : tif P a b = a := tif_t h a b
theorem tff {P : Prop} {a b : Int} (h : ¬ P) : tif P a b = b := tif_f h a b
noncomputable def eAddC (g : Int → Int) (a b c d e : Int) : Int := tif ((40 ≤ a ∧ a ≤ 200) ∧ (40 ≤ b ∧ b ≤ 200) ∧ (40 ≤ c ∧ c ≤ 200) ∧ (0 ≤ d ∧ d ≤ 8) ∧ 0 ≤ e ∧ e ≤ 3) (tif (g 0 < 16) 0 (-2003)) (-2001)
noncomputable def eAddA (g : Int → Int) (a b c : Int) : Int := tif ((40 ≤ a ∧ a ≤ 200) ∧ (40 ≤ b ∧ b ≤ 200) ∧ 40 ≤ c ∧ c ≤ 200) (tif (g 1 < 8) 0 (-2003)) (-2001)
noncomputable def eCol (g : Int → Int) (c v : Int) : Int := tif ((0 ≤ c ∧ c < g 0) ∧ 0 ≤ v ∧ v ≤ 1) 0 (-2001)
noncomputable def eSet (i v : Int) : Int := tif ((i = 3 ∧ 1 ≤ v ∧ v ≤ 9) ∨ ((0 ≤ i ∧ i ≤ 2) ∧ 0 ≤ v ∧ v ≤ 20)) 0 (-2001)
noncomputable def ePass (g : Int → Int) (d : Int) : Int := tif (1 ≤ d ∧ d ≤ 60) (tif (g 3 + d ≤ 300) 0 (-2003)) (-2001)
noncomputable def eWear (g : Int → Int) (sc a c : Int) : Int := tif ((0 ≤ sc ∧ sc < 12) ∧ (0 ≤ a ∧ a < g 1) ∧ -1 ≤ c ∧ c < g 0) 0 (-2001)
noncomputable def eAlt (g : Int → Int) (c m d : Int) : Int := tif ((0 ≤ c ∧ c < g 0) ∧ (0 ≤ m ∧ m ≤ 2) ∧ (-10 ≤ d ∧ d ≤ 10) ∧ d ≠ 0) (tif (¬ awy g c (g 3) 1 ∧ alw g (pres g c m) c m d) (tif (gC g c 7 < 6) 0 (-2003)) (-2002)) (-2001)
/-! what the readers of the play answer -/
noncomputable def qCos (g : Int → Int) (c k : Int) : Int := tif ((0 ≤ c ∧ c < g 0) ∧ 0 ≤ k ∧ k ≤ 12) (tif (k < 3) (pres g c k) (tif (k < 11) (gC g c (k - 3)) (tif (k = 11) (scn g c) (hrs g c)))) (-2001)
noncomputable def qAlt (g : Int → Int) (c k p : Int) : Int := tif ((0 ≤ c ∧ c < g 0) ∧ 0 ≤ k ∧ 0 ≤ p ∧ p ≤ 1) (tif (k < gC g c 7) (gC g c (8 + 2 * k + p)) (-2009)) (-2001)
noncomputable def qAct (g : Int → Int) (a k : Int) : Int := tif ((0 ≤ a ∧ a < g 1) ∧ 0 ≤ k ∧ k ≤ 14) (tif (k < 3) (gA g a k) (gW g (k - 3) a)) (-2001)
noncomputable def qHir (g : Int → Int) (h k : Int) : Int := tif ((0 ≤ h ∧ h < g 2) ∧ 0 ≤ k ∧ k ≤ 3) (gH g h k) (-2001)
noncomputable def qPrb (g : Int → Int) (k : Int) : Int := tif (0 ≤ k ∧ k ≤ 4) (prb g k) (-2001)
noncomputable def qMis (g : Int → Int) (c a : Int) : Int := tif ((0 ≤ c ∧ c < g 0) ∧ 0 ≤ a ∧ a < g 1) (mis g c a) (-2001)
noncomputable def qLst (g : Int → Int) (c a : Int) : Int := tif ((0 ≤ c ∧ c < g 0) ∧ 0 ≤ a ∧ a < g 1) (lst g c a) (-2001)
noncomputable def qFor (g : Int → Int) (sc a : Int) : Int := tif ((0 ≤ sc ∧ sc < 12) ∧ 0 ≤ a ∧ a < g 1) (bst g sc a (g 0).toNat) (-2001)
noncomputable def qFre (g : Int → Int) (c n : Int) : Int := tif ((0 ≤ c ∧ c < g 0) ∧ 1 ≤ n ∧ n ≤ 60) (ffd g c n) (-2001)
noncomputable def qWas (g : Int → Int) (p q : Int) : Int := tif ((0 ≤ p ∧ p ≤ 3) ∧ 0 ≤ q ∧ q ≤ 1) (dset g p q (g 0).toNat) (-2001)
noncomputable def qCou (g : Int → Int) (n tl k : Int) : Int := if k = 0 ∨ k = 1 ∨ k = 2 ∨ k = 3 then g k else if k = 4 then qcks g else if k = 5 then g 4 else if k = 6 then g 5 else if k = 7 then g 6 else if k = 8 then aset g (g 0).toNat else if k = 9 then g 7 else if k = 10 then n else if k = 11 then tl else if 12 ≤ k ∧ k ≤ 15 then g (8 + k - 12) else -2001
noncomputable def eUnp (g : Int → Int) (c : Int) : Int := tif (0 ≤ c ∧ c < g 0) (tif (¬ awy g c (g 3) 1 ∧ 0 < gC g c 7) 0 (-2002)) (-2001)
noncomputable def eHire (g : Int → Int) (c f n r : Int) : Int := tif ((0 ≤ c ∧ c < g 0) ∧ (g 3 ≤ f ∧ f ≤ 300) ∧ (1 ≤ n ∧ n ≤ 60) ∧ 1 ≤ r ∧ r ≤ 50) (tif (¬ awy g c f n) (tif (g 2 < 24) 0 (-2003)) (-2002)) (-2001)
noncomputable def eEnd (g : Int → Int) (h : Int) : Int := tif (0 ≤ h ∧ h < g 2) (tif (gH g h 1 ≤ g 3 ∧ g 3 + 1 < gH g h 1 + gH g h 2) 0 (-2002)) (-2001)
noncomputable def eWash (g : Int → Int) (p ld : Int) : Int := tif ((0 ≤ p ∧ p ≤ 3) ∧ 1 ≤ ld ∧ ld < pw (g 0)) (tif (ldP g p ld) 0 (-2002)) (-2001)
noncomputable def ePerf (g : Int → Int) : Int := tif (∀ k : Int, 0 ≤ k → k < 5 → prb g k = 0) (tif (g 3 < 300) 0 (-2003)) (-2002)
noncomputable def eApp (tl c : Int) : Int := tif (1 ≤ c ∧ c ≤ 255) (tif (tl < 120) 0 (-2003)) (-2001)
def bkF (g : Int → Int) (h : Int) : Int := (gH g h 3 - feeF (g 3 - gH g h 1 + 1) (gH g h 4)).tdiv 2
theorem mkH_z (g : Int → Int) {c f n fee r : Int} (h0 : 0 ≤ g 2) : zu (zu (zu (zu (zu (zu g 2 (g 2 + 1)) (452 + 5 * g 2 + 0) c) (452 + 5 * g 2 + 1) f) (452 + 5 * g 2 + 2) n) (452 + 5 * g 2 + 3) fee) (452 + 5 * g 2 + 4) r = mkH g c f n fee r := by
  funext x
  unfold mkH zu
  repeat' split
  all_goals first | rfl | omega
theorem zu_same {g : Int → Int} {i v : Int} (h : v = g i) : zu g i v = g := by
  subst h
  funext j
  unfold zu
  by_cases e : j = i
  · rw [if_pos e, e]
  · rw [if_neg e]
/-- what undo gives -/
def oU (g : Int → Int) (n : Nat) (hs : Nat → Int → Int) (g' : Int → Int) (n' : Nat) (hs' : Nat → Int → Int) (r : Int32) : Prop :=
  (n = 0 ∧ r = zI (-2002) ∧ g' = g ∧ n' = n ∧ hs' = hs) ∨ (0 < n ∧ r = zI ((n - 1 : Nat) : Int) ∧ g' = cpy g (hs (n - 1)) 0 572 ∧ n' = n - 1 ∧ hs' = hs)
/-- what append gives -/
def oT (tl : Int) (tx : Int → Int) (c tl' : Int) (tx' : Int → Int) (r : Int32) : Prop :=
  (eApp tl c ≠ 0 ∧ r = zI (eApp tl c) ∧ tl' = tl ∧ tx' = tx) ∨ (eApp tl c = 0 ∧ r = zI (tl + 1) ∧ tl' = tl + 1 ∧ tx' = zu tx tl c)
theorem oT_no {tl : Int} {tx : Int → Int} {c e : Int} (h : eApp tl c = e) (he : e ≠ 0) : oT tl tx c tl tx (zI e) := by
  subst h
  exact Or.inl ⟨he, rfl, rfl, rfl⟩
theorem oT_ok {tl : Int} {tx : Int → Int} {c a : Int} (h : eApp tl c = 0) (ha : a = tl + 1) : oT tl tx c (tl + 1) (zu tx tl c) (zI a) := by
  subst ha
  exact Or.inr ⟨h, rfl, rfl, rfl⟩
theorem mR_ap {μ : Nat → Int → Int} {g : Int → Int} {n : Nat} {hs : Nat → Int → Int} {tl : Int} {tx : Int → Int} (h : mR μ g n hs tl tx) {e v w : Int} (he : e = tl) (hw : w = tl + 1) : mR (su (su μ 4 e v) 0 2 w) g n hs (tl + 1) (zu tx tl v) := by
  subst he
  subst hw
  obtain ⟨a, ⟨b, c, d⟩, e, f⟩ := h
  refine ⟨?_, ⟨b, ?_, fun j hj i i0 i1 => ?_⟩, ?_, fun i i0 i1 => ?_⟩
  · rw [su_ne (by decide), su_ne (by decide)]; exact a
  · rw [su_s, if_neg (by decide), su_n (by decide)]; exact c
  · rw [su_n (by decide), su_n (by decide)]; exact d j hj i i0 i1
  · rw [su_s, if_pos rfl]
  · rw [su_n (by decide), su_s]
    unfold zu
    split
    · rfl
    · exact f i i0 (by omega)
theorem mR_cl {μ : Nat → Int → Int} {g : Int → Int} {n : Nat} {hs : Nat → Int → Int} {tl : Int} {tx : Int → Int} (h : mR μ g n hs tl tx) : mR (su μ 0 2 0) g n hs 0 tx := by
  obtain ⟨a, ⟨b, c, d⟩, e, f⟩ := h
  refine ⟨?_, ⟨b, ?_, fun j hj i i0 i1 => ?_⟩, ?_, fun i i0 i1 => absurd i1 (by omega)⟩
  · rw [su_ne (by decide)]; exact a
  · rw [su_s, if_neg (by decide)]; exact c
  · rw [su_n (by decide)]; exact d j hj i i0 i1
  · rw [su_s, if_pos rfl]
theorem mR_un {μ : Nat → Int → Int} {g : Int → Int} {n : Nat} {hs : Nat → Int → Int} {tl : Int} {tx : Int → Int} (h : mR μ g n hs tl tx) (hn : 0 < n) {w : Int} (hw : w = (n : Int) - 1) {F : Int → Int} (hF : F = cpy g (hs (n - 1)) 0 572) : mR (va_up (su μ 0 1 w) 1 F) F (n - 1) hs tl tx := by
  subst hw
  obtain ⟨a, ⟨b, c, d⟩, e, f⟩ := h
  refine ⟨va_up_self .., ⟨by omega, ?_, fun j hj i i0 i1 => ?_⟩, ?_, fun i i0 i1 => ?_⟩
  · rw [va_up_ne _ _ (by decide), su_s, if_pos rfl]; omega
  · rw [va_up_ne _ _ (by decide), su_n (by decide)]; exact d j (by omega) i i0 i1
  · rw [va_up_ne _ _ (by decide), su_s, if_neg (by decide)]; exact e
  · rw [va_up_ne _ _ (by decide), su_n (by decide)]; exact f i i0 i1
theorem un_s {f g : Int → Int} {h : Int → Int} {i : Nat} {a v K : Int} (ha : a = (i : Int)) (hv : v = g (K + (i : Int))) (hh : ∀ x : Int, 0 ≤ x → x < 572 → g (K + x) = h x) (hi : (i : Int) < 572) : zu (cpy f h 0 i) a v = cpy f h 0 (i + 1) := cpy_s _ _ _ _ (by omega) (by rw [hv]; exact hh _ (by omega) hi)
