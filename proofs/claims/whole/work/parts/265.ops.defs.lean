/-! when a call is refused, and with which answer (0: it is not) -/
theorem tft {P : Prop} {a b : Int} (h : P) : tif P a b = a := tif_t h a b
theorem tff {P : Prop} {a b : Int} (h : ¬ P) : tif P a b = b := tif_f h a b
noncomputable def eAddC (g : Int → Int) (a b c d e : Int) : Int := tif ((40 ≤ a ∧ a ≤ 200) ∧ (40 ≤ b ∧ b ≤ 200) ∧ (40 ≤ c ∧ c ≤ 200) ∧ (0 ≤ d ∧ d ≤ 8) ∧ 0 ≤ e ∧ e ≤ 3) (tif (g 0 < 16) 0 (-2003)) (-2001)
noncomputable def eAddA (g : Int → Int) (a b c : Int) : Int := tif ((40 ≤ a ∧ a ≤ 200) ∧ (40 ≤ b ∧ b ≤ 200) ∧ 40 ≤ c ∧ c ≤ 200) (tif (g 1 < 8) 0 (-2003)) (-2001)
noncomputable def eCol (g : Int → Int) (c v : Int) : Int := tif ((0 ≤ c ∧ c < g 0) ∧ 0 ≤ v ∧ v ≤ 1) 0 (-2001)
noncomputable def eSet (i v : Int) : Int := tif ((i = 3 ∧ 1 ≤ v ∧ v ≤ 9) ∨ ((0 ≤ i ∧ i ≤ 2) ∧ 0 ≤ v ∧ v ≤ 20)) 0 (-2001)
noncomputable def ePass (g : Int → Int) (d : Int) : Int := tif (1 ≤ d ∧ d ≤ 60) (tif (g 3 + d ≤ 300) 0 (-2003)) (-2001)
noncomputable def eWear (g : Int → Int) (sc a c : Int) : Int := tif ((0 ≤ sc ∧ sc < 12) ∧ (0 ≤ a ∧ a < g 1) ∧ -1 ≤ c ∧ c < g 0) 0 (-2001)
noncomputable def eAlt (g : Int → Int) (c m d : Int) : Int := tif ((0 ≤ c ∧ c < g 0) ∧ (0 ≤ m ∧ m ≤ 2) ∧ (-10 ≤ d ∧ d ≤ 10) ∧ d ≠ 0) (tif (¬ awy g c (g 3) 1 ∧ alw g (pres g c m) c m d) (tif (gC g c 7 < 6) 0 (-2003)) (-2002)) (-2001)
