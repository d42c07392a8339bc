/-! the state as integers: places of one row of 572 -/
def gS (g : Int → Int) (i : Int) : Int := g (8 + i)
def gC (g : Int → Int) (c p : Int) : Int := g (12 + 20 * c + p)
def gM (g : Int → Int) (c k : Int) : Int := gC g c (8 + 2 * k)
def gX (g : Int → Int) (c k : Int) : Int := gC g c (8 + 2 * k + 1)
def gA (g : Int → Int) (a m : Int) : Int := g (332 + 3 * a + m)
def gW (g : Int → Int) (sc a : Int) : Int := g (356 + 8 * sc + a)
def gH (g : Int → Int) (h p : Int) : Int := g (452 + 5 * h + p)
/-- what always holds of a state -/
def Inv (g : Int → Int) : Prop :=
  (0 ≤ g 0 ∧ g 0 ≤ 16) ∧ (0 ≤ g 1 ∧ g 1 ≤ 8) ∧ (0 ≤ g 2 ∧ g 2 ≤ 24) ∧ (0 ≤ g 3 ∧ g 3 ≤ 300) ∧
  (∀ m : Int, 0 ≤ m → m < 3 → 0 ≤ gS g m ∧ gS g m ≤ 20) ∧ (1 ≤ gS g 3 ∧ gS g 3 ≤ 9) ∧
  (∀ c : Int, 0 ≤ c → c < g 0 → (∀ m : Int, 0 ≤ m → m < 3 → 40 ≤ gC g c m ∧ gC g c m ≤ 200) ∧ (0 ≤ gC g c 3 ∧ gC g c 3 ≤ 8) ∧ (0 ≤ gC g c 4 ∧ gC g c 4 ≤ 3) ∧ (0 ≤ gC g c 5 ∧ gC g c 5 ≤ 1) ∧ (0 ≤ gC g c 6 ∧ gC g c 6 ≤ 9) ∧ (0 ≤ gC g c 7 ∧ gC g c 7 ≤ 6) ∧
    (∀ k : Int, 0 ≤ k → k < gC g c 7 → (0 ≤ gM g c k ∧ gM g c k ≤ 2) ∧ (-10 ≤ gX g c k ∧ gX g c k ≤ 10))) ∧
  (∀ a : Int, 0 ≤ a → a < g 1 → (∀ m : Int, 0 ≤ m → m < 3 → 40 ≤ gA g a m ∧ gA g a m ≤ 200) ∧ (∀ sc : Int, 0 ≤ sc → sc < 12 → -1 ≤ gW g sc a ∧ gW g sc a < g 0)) ∧
  (∀ h : Int, 0 ≤ h → h < g 2 → (0 ≤ gH g h 0 ∧ gH g h 0 < g 0) ∧ (0 ≤ gH g h 1 ∧ gH g h 1 ≤ 300) ∧ (1 ≤ gH g h 2 ∧ gH g h 2 ≤ 60) ∧ (0 ≤ gH g h 3 ∧ gH g h 3 ≤ 3000) ∧ (1 ≤ gH g h 4 ∧ gH g h 4 ≤ 50))
section IV
variable {g : Int → Int} (hI : Inv g)
theorem iv_nC (hI : Inv g) : 0 ≤ g 0 ∧ g 0 ≤ 16 := hI.1
theorem iv_nA (hI : Inv g) : 0 ≤ g 1 ∧ g 1 ≤ 8 := hI.2.1
theorem iv_nH (hI : Inv g) : 0 ≤ g 2 ∧ g 2 ≤ 24 := hI.2.2.1
theorem iv_to (hI : Inv g) : 0 ≤ g 3 ∧ g 3 ≤ 300 := hI.2.2.2.1
theorem iv_es (hI : Inv g) {m : Int} (h0 : 0 ≤ m) (h1 : m < 3) : 0 ≤ gS g m ∧ gS g m ≤ 20 := hI.2.2.2.2.1 m h0 h1
theorem iv_dl (hI : Inv g) : 1 ≤ gS g 3 ∧ gS g 3 ≤ 9 := hI.2.2.2.2.2.1
theorem iv_or (hI : Inv g) {c m : Int} (h0 : 0 ≤ c) (h1 : c < g 0) (m0 : 0 ≤ m) (m1 : m < 3) : 40 ≤ gC g c m ∧ gC g c m ≤ 200 := (hI.2.2.2.2.2.2.1 c h0 h1).1 m m0 m1
theorem iv_al (hI : Inv g) {c : Int} (h0 : 0 ≤ c) (h1 : c < g 0) : 0 ≤ gC g c 3 ∧ gC g c 3 ≤ 8 := (hI.2.2.2.2.2.2.1 c h0 h1).2.1
theorem iv_co (hI : Inv g) {c : Int} (h0 : 0 ≤ c) (h1 : c < g 0) : 0 ≤ gC g c 4 ∧ gC g c 4 ≤ 3 := (hI.2.2.2.2.2.2.1 c h0 h1).2.2.1
theorem iv_cl (hI : Inv g) {c : Int} (h0 : 0 ≤ c) (h1 : c < g 0) : 0 ≤ gC g c 5 ∧ gC g c 5 ≤ 1 := (hI.2.2.2.2.2.2.1 c h0 h1).2.2.2.1
theorem iv_di (hI : Inv g) {c : Int} (h0 : 0 ≤ c) (h1 : c < g 0) : 0 ≤ gC g c 6 ∧ gC g c 6 ≤ 9 := (hI.2.2.2.2.2.2.1 c h0 h1).2.2.2.2.1
theorem iv_na (hI : Inv g) {c : Int} (h0 : 0 ≤ c) (h1 : c < g 0) : 0 ≤ gC g c 7 ∧ gC g c 7 ≤ 6 := (hI.2.2.2.2.2.2.1 c h0 h1).2.2.2.2.2.1
theorem iv_am (hI : Inv g) {c k : Int} (h0 : 0 ≤ c) (h1 : c < g 0) (k0 : 0 ≤ k) (k1 : k < gC g c 7) : 0 ≤ gM g c k ∧ gM g c k ≤ 2 := ((hI.2.2.2.2.2.2.1 c h0 h1).2.2.2.2.2.2 k k0 k1).1
theorem iv_ac (hI : Inv g) {c k : Int} (h0 : 0 ≤ c) (h1 : c < g 0) (k0 : 0 ≤ k) (k1 : k < gC g c 7) : -10 ≤ gX g c k ∧ gX g c k ≤ 10 := ((hI.2.2.2.2.2.2.1 c h0 h1).2.2.2.2.2.2 k k0 k1).2
theorem iv_me (hI : Inv g) {a m : Int} (h0 : 0 ≤ a) (h1 : a < g 1) (m0 : 0 ≤ m) (m1 : m < 3) : 40 ≤ gA g a m ∧ gA g a m ≤ 200 := (hI.2.2.2.2.2.2.2.1 a h0 h1).1 m m0 m1
theorem iv_wo (hI : Inv g) {a sc : Int} (h0 : 0 ≤ a) (h1 : a < g 1) (m0 : 0 ≤ sc) (m1 : sc < 12) : -1 ≤ gW g sc a ∧ gW g sc a < g 0 := (hI.2.2.2.2.2.2.2.1 a h0 h1).2 sc m0 m1
theorem iv_hi (hI : Inv g) {h : Int} (h0 : 0 ≤ h) (h1 : h < g 2) : (0 ≤ gH g h 0 ∧ gH g h 0 < g 0) ∧ (0 ≤ gH g h 1 ∧ gH g h 1 ≤ 300) ∧ (1 ≤ gH g h 2 ∧ gH g h 2 ≤ 60) ∧ (0 ≤ gH g h 3 ∧ gH g h 3 ≤ 3000) ∧ (1 ≤ gH g h 4 ∧ gH g h 4 ≤ 50) := hI.2.2.2.2.2.2.2.2 h h0 h1
end IV
/-! a State object of the class: twenty cells; its numbers by cell and place -/
def szS (k : Nat) : Nat := match k with
  | 4 => 4
  | 5 => 48
  | 11 => 96
  | 12 => 96
  | 13 => 24
  | 14 => 96
  | 15 => 24
  | 16 => 24
  | 17 => 24
  | 18 => 24
  | 19 => 24
  | _ => 16
def sC (cI : ClassId) (ad : Nat → Nat) (σ : Nat → Int → Int) : Nat → va_E := fun k => match k with
  | 0 => .inr (4, [.ref (ad 1), .ref (ad 2), .ref (ad 3), .ref (ad 4), .int (zI (σ 0 0)), .int (zI (σ 0 1)), .int (zI (σ 0 2)), .int (zI (σ 0 3)), .int (zI (σ 0 4))])
  | 1 => .inr (6, [.int (zI (σ 1 0)), .ref (ad 5), .ref (ad 6), .ref (ad 7), .ref (ad 8), .ref (ad 9), .ref (ad 10), .ref (ad 11), .ref (ad 12)])
  | 2 => .inr (0, [.int (zI (σ 2 0)), .ref (ad 13), .ref (ad 14)])
  | 3 => .inr (1, [.int (zI (σ 3 0)), .ref (ad 15), .ref (ad 16), .ref (ad 17), .ref (ad 18), .ref (ad 19)])
  | k => .inl (cI, szS k, .inl (zf (σ k)))
def su (σ : Nat → Int → Int) (k : Nat) (i v : Int) : Nat → Int → Int := va_up σ k (zu (σ k) i v)
theorem su_s (σ : Nat → Int → Int) (k : Nat) (i v j : Int) : su σ k i v k j = if j = i then v else σ k j := by simp [su, va_up, zu]
theorem su_n {σ : Nat → Int → Int} {k k' : Nat} (h : k' ≠ k) (i v j : Int) : su σ k i v k' j = σ k' j := by simp [su, va_up, h]
theorem sC_a {cI : ClassId} {ad : Nat → Nat} {σ : Nat → Int → Int} (k : Nat) (hk : 4 ≤ k) (i v : Int) : va_up (sC cI ad σ) k (.inl (cI, szS k, .inl (zf (zu (σ k) i v)))) = sC cI ad (su σ k i v) := by
  funext j
  by_cases hj : j = k
  · subst hj
    show (if j = j then _ else _) = _
    rw [if_pos rfl]
    match j, hk with
    | j + 4, _ =>
      show _ = (.inl (cI, szS (j + 4), .inl (zf (su σ (j + 4) i v (j + 4)))) : va_E)
      simp [su, va_up]
  · show (if j = k then _ else _) = _
    rw [if_neg hj]
    match j with
    | 0 => simp only [sC, su_n (show 0 ≠ k by omega)]
    | 1 => simp only [sC, su_n (show 1 ≠ k by omega)]
    | 2 => simp only [sC, su_n (show 2 ≠ k by omega)]
    | 3 => simp only [sC, su_n (show 3 ≠ k by omega)]
    | j + 4 =>
      show (.inl (cI, szS (j + 4), .inl (zf (σ (j + 4)))) : va_E) = .inl (cI, szS (j + 4), .inl (zf (su σ k i v (j + 4))))
      simp [su, va_up, hj]
theorem sC_0_0 {cI : ClassId} {ad : Nat → Nat} {σ : Nat → Int → Int} (v : Int) : va_up (sC cI ad σ) 0 (.inr (4, [.ref (ad 1), .ref (ad 2), .ref (ad 3), .ref (ad 4), .int (zI v), .int (zI (σ 0 1)), .int (zI (σ 0 2)), .int (zI (σ 0 3)), .int (zI (σ 0 4))])) = sC cI ad (su σ 0 0 v) := by
  funext j
  match j with
  | 0 => simp [va_up, sC, su, zu]
  | 1 => simp [va_up, sC, su]
  | 2 => simp [va_up, sC, su]
  | 3 => simp [va_up, sC, su]
  | j + 4 => simp [va_up, sC, su, show j + 4 ≠ 0 by omega]
theorem sC_0_1 {cI : ClassId} {ad : Nat → Nat} {σ : Nat → Int → Int} (v : Int) : va_up (sC cI ad σ) 0 (.inr (4, [.ref (ad 1), .ref (ad 2), .ref (ad 3), .ref (ad 4), .int (zI (σ 0 0)), .int (zI v), .int (zI (σ 0 2)), .int (zI (σ 0 3)), .int (zI (σ 0 4))])) = sC cI ad (su σ 0 1 v) := by
  funext j
  match j with
  | 0 => simp [va_up, sC, su, zu]
  | 1 => simp [va_up, sC, su]
  | 2 => simp [va_up, sC, su]
  | 3 => simp [va_up, sC, su]
  | j + 4 => simp [va_up, sC, su, show j + 4 ≠ 0 by omega]
theorem sC_0_2 {cI : ClassId} {ad : Nat → Nat} {σ : Nat → Int → Int} (v : Int) : va_up (sC cI ad σ) 0 (.inr (4, [.ref (ad 1), .ref (ad 2), .ref (ad 3), .ref (ad 4), .int (zI (σ 0 0)), .int (zI (σ 0 1)), .int (zI v), .int (zI (σ 0 3)), .int (zI (σ 0 4))])) = sC cI ad (su σ 0 2 v) := by
  funext j
  match j with
  | 0 => simp [va_up, sC, su, zu]
  | 1 => simp [va_up, sC, su]
  | 2 => simp [va_up, sC, su]
  | 3 => simp [va_up, sC, su]
  | j + 4 => simp [va_up, sC, su, show j + 4 ≠ 0 by omega]
theorem sC_0_3 {cI : ClassId} {ad : Nat → Nat} {σ : Nat → Int → Int} (v : Int) : va_up (sC cI ad σ) 0 (.inr (4, [.ref (ad 1), .ref (ad 2), .ref (ad 3), .ref (ad 4), .int (zI (σ 0 0)), .int (zI (σ 0 1)), .int (zI (σ 0 2)), .int (zI v), .int (zI (σ 0 4))])) = sC cI ad (su σ 0 3 v) := by
  funext j
  match j with
  | 0 => simp [va_up, sC, su, zu]
  | 1 => simp [va_up, sC, su]
  | 2 => simp [va_up, sC, su]
  | 3 => simp [va_up, sC, su]
  | j + 4 => simp [va_up, sC, su, show j + 4 ≠ 0 by omega]
theorem sC_0_4 {cI : ClassId} {ad : Nat → Nat} {σ : Nat → Int → Int} (v : Int) : va_up (sC cI ad σ) 0 (.inr (4, [.ref (ad 1), .ref (ad 2), .ref (ad 3), .ref (ad 4), .int (zI (σ 0 0)), .int (zI (σ 0 1)), .int (zI (σ 0 2)), .int (zI (σ 0 3)), .int (zI v)])) = sC cI ad (su σ 0 4 v) := by
  funext j
  match j with
  | 0 => simp [va_up, sC, su, zu]
  | 1 => simp [va_up, sC, su]
  | 2 => simp [va_up, sC, su]
  | 3 => simp [va_up, sC, su]
  | j + 4 => simp [va_up, sC, su, show j + 4 ≠ 0 by omega]
theorem sC_1_0 {cI : ClassId} {ad : Nat → Nat} {σ : Nat → Int → Int} (v : Int) : va_up (sC cI ad σ) 1 (.inr (6, [.int (zI v), .ref (ad 5), .ref (ad 6), .ref (ad 7), .ref (ad 8), .ref (ad 9), .ref (ad 10), .ref (ad 11), .ref (ad 12)])) = sC cI ad (su σ 1 0 v) := by
  funext j
  match j with
  | 0 => simp [va_up, sC, su]
  | 1 => simp [va_up, sC, su, zu]
  | 2 => simp [va_up, sC, su]
  | 3 => simp [va_up, sC, su]
  | j + 4 => simp [va_up, sC, su, show j + 4 ≠ 1 by omega]
theorem sC_2_0 {cI : ClassId} {ad : Nat → Nat} {σ : Nat → Int → Int} (v : Int) : va_up (sC cI ad σ) 2 (.inr (0, [.int (zI v), .ref (ad 13), .ref (ad 14)])) = sC cI ad (su σ 2 0 v) := by
  funext j
  match j with
  | 0 => simp [va_up, sC, su]
  | 1 => simp [va_up, sC, su]
  | 2 => simp [va_up, sC, su, zu]
  | 3 => simp [va_up, sC, su]
  | j + 4 => simp [va_up, sC, su, show j + 4 ≠ 2 by omega]
theorem sC_3_0 {cI : ClassId} {ad : Nat → Nat} {σ : Nat → Int → Int} (v : Int) : va_up (sC cI ad σ) 3 (.inr (1, [.int (zI v), .ref (ad 15), .ref (ad 16), .ref (ad 17), .ref (ad 18), .ref (ad 19)])) = sC cI ad (su σ 3 0 v) := by
  funext j
  match j with
  | 0 => simp [va_up, sC, su]
  | 1 => simp [va_up, sC, su]
  | 2 => simp [va_up, sC, su]
  | 3 => simp [va_up, sC, su, zu]
  | j + 4 => simp [va_up, sC, su, show j + 4 ≠ 3 by omega]
/-- the class's State object holds the state g: what lives of its rows -/
def Rel (σ : Nat → Int → Int) (g : Int → Int) : Prop :=
  (σ 0 0 = g 3 ∧ σ 0 1 = g 4 ∧ σ 0 2 = g 5 ∧ σ 0 3 = g 6 ∧ σ 0 4 = g 7) ∧ (σ 1 0 = g 0 ∧ σ 2 0 = g 1 ∧ σ 3 0 = g 2) ∧
  (∀ i : Int, 0 ≤ i → i < 4 → σ 4 i = gS g i) ∧
  (∀ c : Int, 0 ≤ c → c < g 0 → (∀ m : Int, 0 ≤ m → m < 3 → σ 5 (c * 3 + m) = gC g c m) ∧ σ 6 c = gC g c 3 ∧ σ 7 c = gC g c 4 ∧ σ 8 c = gC g c 5 ∧ σ 9 c = gC g c 6 ∧ σ 10 c = gC g c 7 ∧ (∀ k : Int, 0 ≤ k → k < gC g c 7 → σ 11 (c * 6 + k) = gM g c k ∧ σ 12 (c * 6 + k) = gX g c k)) ∧
  (∀ a : Int, 0 ≤ a → a < g 1 → (∀ m : Int, 0 ≤ m → m < 3 → σ 13 (a * 3 + m) = gA g a m) ∧ (∀ sc : Int, 0 ≤ sc → sc < 12 → σ 14 (sc * 8 + a) = gW g sc a)) ∧
  (∀ h : Int, 0 ≤ h → h < g 2 → σ 15 h = gH g h 0 ∧ σ 16 h = gH g h 1 ∧ σ 17 h = gH g h 2 ∧ σ 18 h = gH g h 4 ∧ σ 19 h = gH g h 3)
section RL
variable {σ : Nat → Int → Int} {g : Int → Int}
theorem rl_to (h : Rel σ g) : σ 0 0 = g 3 := h.1.1
theorem rl_mi (h : Rel σ g) : σ 0 1 = g 4 := h.1.2.1
theorem rl_fe (h : Rel σ g) : σ 0 2 = g 5 := h.1.2.2.1
theorem rl_ws (h : Rel σ g) : σ 0 3 = g 6 := h.1.2.2.2.1
theorem rl_pf (h : Rel σ g) : σ 0 4 = g 7 := h.1.2.2.2.2
theorem rl_nC (h : Rel σ g) : σ 1 0 = g 0 := h.2.1.1
theorem rl_nA (h : Rel σ g) : σ 2 0 = g 1 := h.2.1.2.1
theorem rl_nH (h : Rel σ g) : σ 3 0 = g 2 := h.2.1.2.2
theorem rl_se (h : Rel σ g) {i : Int} (h0 : 0 ≤ i) (h1 : i < 4) : σ 4 i = gS g i := h.2.2.1 i h0 h1
theorem rl_or (h : Rel σ g) {c m : Int} (h0 : 0 ≤ c) (h1 : c < g 0) (m0 : 0 ≤ m) (m1 : m < 3) : σ 5 (c * 3 + m) = gC g c m := (h.2.2.2.1 c h0 h1).1 m m0 m1
theorem rl_al (h : Rel σ g) {c : Int} (h0 : 0 ≤ c) (h1 : c < g 0) : σ 6 c = gC g c 3 := (h.2.2.2.1 c h0 h1).2.1
theorem rl_co (h : Rel σ g) {c : Int} (h0 : 0 ≤ c) (h1 : c < g 0) : σ 7 c = gC g c 4 := (h.2.2.2.1 c h0 h1).2.2.1
theorem rl_cl (h : Rel σ g) {c : Int} (h0 : 0 ≤ c) (h1 : c < g 0) : σ 8 c = gC g c 5 := (h.2.2.2.1 c h0 h1).2.2.2.1
theorem rl_di (h : Rel σ g) {c : Int} (h0 : 0 ≤ c) (h1 : c < g 0) : σ 9 c = gC g c 6 := (h.2.2.2.1 c h0 h1).2.2.2.2.1
theorem rl_na (h : Rel σ g) {c : Int} (h0 : 0 ≤ c) (h1 : c < g 0) : σ 10 c = gC g c 7 := (h.2.2.2.1 c h0 h1).2.2.2.2.2.1
theorem rl_am (h : Rel σ g) {c k : Int} (h0 : 0 ≤ c) (h1 : c < g 0) (k0 : 0 ≤ k) (k1 : k < gC g c 7) : σ 11 (c * 6 + k) = gM g c k := ((h.2.2.2.1 c h0 h1).2.2.2.2.2.2 k k0 k1).1
theorem rl_ac (h : Rel σ g) {c k : Int} (h0 : 0 ≤ c) (h1 : c < g 0) (k0 : 0 ≤ k) (k1 : k < gC g c 7) : σ 12 (c * 6 + k) = gX g c k := ((h.2.2.2.1 c h0 h1).2.2.2.2.2.2 k k0 k1).2
theorem rl_me (h : Rel σ g) {a m : Int} (h0 : 0 ≤ a) (h1 : a < g 1) (m0 : 0 ≤ m) (m1 : m < 3) : σ 13 (a * 3 + m) = gA g a m := (h.2.2.2.2.1 a h0 h1).1 m m0 m1
theorem rl_wo (h : Rel σ g) {a sc : Int} (h0 : 0 ≤ a) (h1 : a < g 1) (m0 : 0 ≤ sc) (m1 : sc < 12) : σ 14 (sc * 8 + a) = gW g sc a := (h.2.2.2.2.1 a h0 h1).2 sc m0 m1
theorem rl_h0 (h : Rel σ g) {k : Int} (h0 : 0 ≤ k) (h1 : k < g 2) : σ 15 k = gH g k 0 := (h.2.2.2.2.2 k h0 h1).1
theorem rl_h1 (h : Rel σ g) {k : Int} (h0 : 0 ≤ k) (h1 : k < g 2) : σ 16 k = gH g k 1 := (h.2.2.2.2.2 k h0 h1).2.1
theorem rl_h2 (h : Rel σ g) {k : Int} (h0 : 0 ≤ k) (h1 : k < g 2) : σ 17 k = gH g k 2 := (h.2.2.2.2.2 k h0 h1).2.2.1
theorem rl_h4 (h : Rel σ g) {k : Int} (h0 : 0 ≤ k) (h1 : k < g 2) : σ 18 k = gH g k 4 := (h.2.2.2.2.2 k h0 h1).2.2.2.1
theorem rl_h3 (h : Rel σ g) {k : Int} (h0 : 0 ≤ k) (h1 : k < g 2) : σ 19 k = gH g k 3 := (h.2.2.2.2.2 k h0 h1).2.2.2.2
end RL
/-! what the methods say -/
noncomputable def pres (g : Int → Int) (c m : Int) : Int := gC g c m + sm (fun k => ti (gM g c k = m) * gX g c k) (gC g c 7).toNat
theorem pres_bd {g : Int → Int} (hI : Inv g) {c m : Int} (h0 : 0 ≤ c) (h1 : c < g 0) (m0 : 0 ≤ m) (m1 : m < 3) : -60 ≤ pres g c m ∧ pres g c m ≤ 300 := by
  have hn := iv_na hI h0 h1
  have ho := iv_or hI h0 h1 m0 m1
  have hb := sm_bd (f := fun k => ti (gM g c k = m) * gX g c k) (n := (gC g c 7).toNat) (lo := -10) (hi := 10) (fun k k0 k1 => by
    have hx := iv_ac hI h0 h1 k0 (by omega)
    rcases ti_or (gM g c k = m) with q | q
    · simp only [q]; omega
    · simp only [q]; omega)
  unfold pres
  omega
def alw (g : Int → Int) (p : Int) (c m d : Int) : Prop := 40 ≤ p + d ∧ gC g c m - 20 ≤ p + d ∧ p + d ≤ gC g c m + gC g c 3
noncomputable def wrs (g : Int → Int) (sc c : Int) : Int := sm (fun a => ti (gW g sc a = c)) (g 1).toNat
theorem wrs_bd {g : Int → Int} (hI : Inv g) (sc c : Int) : 0 ≤ wrs g sc c ∧ wrs g sc c ≤ 8 := by
  have h := sm_01 (f := fun a => ti (gW g sc a = c)) (n := (g 1).toNat) (fun j => ti_01 _)
  have h2 := iv_nA hI
  unfold wrs
  omega
noncomputable def scn (g : Int → Int) (c : Int) : Int := sm (fun sc => ti (0 < wrs g sc c)) 12
theorem scn_bd (g : Int → Int) (c : Int) : 0 ≤ scn g c ∧ scn g c ≤ 12 := by
  have h := sm_01 (f := fun sc => ti (0 < wrs g sc c)) (n := 12) (fun j => ti_01 _)
  unfold scn
  omega
def hnd (g : Int → Int) (sc c : Int) : Prop := (∃ a : Int, 0 ≤ a ∧ a < g 1 ∧ gW g (sc + 1) a = c ∧ gW g sc a ≠ c) ∧ 0 < wrs g sc c
def qck (g : Int → Int) (sc a : Int) : Prop := gW g sc a ≠ -1 ∧ gW g (sc + 1) a ≠ -1 ∧ gW g sc a ≠ gW g (sc + 1) a
noncomputable def qcks (g : Int → Int) : Int := sm (fun sc => sm (fun a => ti (qck g sc a)) (g 1).toNat) 11
def ovl (g : Int → Int) (c d n h : Int) : Prop := gH g h 0 = c ∧ gH g h 1 < d + n ∧ d < gH g h 1 + gH g h 2
/-- a costume is away on one of n days from d on -/
def awy (g : Int → Int) (c d n : Int) : Prop := ∃ h : Int, 0 ≤ h ∧ h < g 2 ∧ ovl g c d n h
noncomputable def hrs (g : Int → Int) (c : Int) : Int := sm (fun h => ti (gH g h 0 = c)) (g 2).toNat
def feeF (n r : Int) : Int := r * (n - n / 7)
