/-! when a call is refused, and with which answer (0: it is not) -/
theorem tft {P : Prop} {a b : Int} (h : P) : tif P a b = a := tif_t h a b
theorem tff {P : Prop} {a b : Int} (h : ¬ P) : tif P a b = b := tif_f h a b
noncomputable def eAddC (g : Int → Int) (a b c d e : Int) : Int := tif ((40 ≤ a ∧ a ≤ 200) ∧ (40 ≤ b ∧ b ≤ 200) ∧ (40 ≤ c ∧ c ≤ 200) ∧ (0 ≤ d ∧ d ≤ 8) ∧ 0 ≤ e ∧ e ≤ 3) (tif (g 0 < 16) 0 (-2003)) (-2001)
noncomputable def eAddA (g : Int → Int) (a b c : Int) : Int := tif ((40 ≤ a ∧ a ≤ 200) ∧ (40 ≤ b ∧ b ≤ 200) ∧ 40 ≤ c ∧ c ≤ 200) (tif (g 1 < 8) 0 (-2003)) (-2001)
noncomputable def eCol (g : Int → Int) (c v : Int) : Int := tif ((0 ≤ c ∧ c < g 0) ∧ 0 ≤ v ∧ v ≤ 1) 0 (-2001)
noncomputable def eSet (i v : Int) : Int := tif ((i = 3 ∧ 1 ≤ v ∧ v ≤ 9) ∨ ((0 ≤ i ∧ i ≤ 2) ∧ 0 ≤ v ∧ v ≤ 20)) 0 (-2001)
noncomputable def ePass (g : Int → Int) (d : Int) : Int := tif (1 ≤ d ∧ d ≤ 60) (tif (g 3 + d ≤ 300) 0 (-2003)) (-2001)
noncomputable def eWear (g : Int → Int) (sc a c : Int) : Int := tif ((0 ≤ sc ∧ sc < 12) ∧ (0 ≤ a ∧ a < g 1) ∧ -1 ≤ c ∧ c < g 0) 0 (-2001)
noncomputable def eAlt (g : Int → Int) (c m d : Int) : Int := tif ((0 ≤ c ∧ c < g 0) ∧ (0 ≤ m ∧ m ≤ 2) ∧ (-10 ≤ d ∧ d ≤ 10) ∧ d ≠ 0) (tif (¬ awy g c (g 3) 1 ∧ alw g (pres g c m) c m d) (tif (gC g c 7 < 6) 0 (-2003)) (-2002)) (-2001)
/-! what the readers of the play answer -/
noncomputable def qCos (g : Int → Int) (c k : Int) : Int := tif ((0 ≤ c ∧ c < g 0) ∧ 0 ≤ k ∧ k ≤ 12) (tif (k < 3) (pres g c k) (tif (k < 11) (gC g c (k - 3)) (tif (k = 11) (scn g c) (hrs g c)))) (-2001)
noncomputable def qAlt (g : Int → Int) (c k p : Int) : Int := tif ((0 ≤ c ∧ c < g 0) ∧ 0 ≤ k ∧ 0 ≤ p ∧ p ≤ 1) (tif (k < gC g c 7) (gC g c (8 + 2 * k + p)) (-2009)) (-2001)
noncomputable def qAct (g : Int → Int) (a k : Int) : Int := tif ((0 ≤ a ∧ a < g 1) ∧ 0 ≤ k ∧ k ≤ 14) (tif (k < 3) (gA g a k) (gW g (k - 3) a)) (-2001)
noncomputable def qHir (g : Int → Int) (h k : Int) : Int := tif ((0 ≤ h ∧ h < g 2) ∧ 0 ≤ k ∧ k ≤ 3) (gH g h k) (-2001)
noncomputable def qPrb (g : Int → Int) (k : Int) : Int := tif (0 ≤ k ∧ k ≤ 4) (prb g k) (-2001)
noncomputable def qMis (g : Int → Int) (c a : Int) : Int := tif ((0 ≤ c ∧ c < g 0) ∧ 0 ≤ a ∧ a < g 1) (mis g c a) (-2001)
noncomputable def qLst (g : Int → Int) (c a : Int) : Int := tif ((0 ≤ c ∧ c < g 0) ∧ 0 ≤ a ∧ a < g 1) (lst g c a) (-2001)
noncomputable def qFor (g : Int → Int) (sc a : Int) : Int := tif ((0 ≤ sc ∧ sc < 12) ∧ 0 ≤ a ∧ a < g 1) (bst g sc a (g 0).toNat) (-2001)
noncomputable def qFre (g : Int → Int) (c n : Int) : Int := tif ((0 ≤ c ∧ c < g 0) ∧ 1 ≤ n ∧ n ≤ 60) (ffd g c n) (-2001)
noncomputable def qWas (g : Int → Int) (p q : Int) : Int := tif ((0 ≤ p ∧ p ≤ 3) ∧ 0 ≤ q ∧ q ≤ 1) (dset g p q (g 0).toNat) (-2001)
noncomputable def qCou (g : Int → Int) (n tl k : Int) : Int := if k = 0 ∨ k = 1 ∨ k = 2 ∨ k = 3 then g k else if k = 4 then qcks g else if k = 5 then g 4 else if k = 6 then g 5 else if k = 7 then g 6 else if k = 8 then aset g (g 0).toNat else if k = 9 then g 7 else if k = 10 then n else if k = 11 then tl else if 12 ≤ k ∧ k ≤ 15 then g (8 + k - 12) else -2001
