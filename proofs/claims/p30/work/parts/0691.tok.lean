/-! tokens: the first place from p on where P holds; the text's kinds of characters -/
def isL (P : Int → Prop) (p q : Int) : Prop := p ≤ q ∧ P q ∧ ∀ x : Int, p ≤ x → x < q → ¬ P x
theorem isL_u {P : Int → Prop} {p q q' : Int} (h : isL P p q) (h' : isL P p q') : q = q' := by
  rcases Int.lt_trichotomy q q' with z | z | z
  · exact absurd h.2.1 (h'.2.2 q h.1 z)
  · exact z
  · exact absurd h'.2.1 (h.2.2 q' h'.1 z)
noncomputable def lsq (P : Int → Prop) (p : Int) : Int := Classical.epsilon (fun q => isL P p q)
theorem lsq_of {P : Int → Prop} {p q : Int} (h : isL P p q) : lsq P p = q := isL_u (Classical.epsilon_spec (p := fun q => isL P p q) ⟨q, h⟩) h
theorem isL_ex {P : Int → Prop} : ∀ (n : Nat) (p : Int), P (p + (n : Int)) → ∃ q : Int, isL P p q ∧ q ≤ p + (n : Int) := by
  intro n
  induction n with
  | zero => intro p h; exact ⟨p, ⟨Int.le_refl _, by rw [show p = p + ((0 : Nat) : Int) by omega]; exact h, fun x h0 h1 => absurd h1 (by omega)⟩, by omega⟩
  | succ n ih =>
    intro p h
    rcases Classical.em (P p) with q | q
    · exact ⟨p, ⟨Int.le_refl _, q, fun x h0 h1 => absurd h1 (by omega)⟩, by omega⟩
    · obtain ⟨z, ⟨h1, h2, h3⟩, h4⟩ := ih (p + 1) (by rw [show p + 1 + (n : Int) = p + ((n + 1 : Nat) : Int) by omega]; exact h)
      refine ⟨z, ⟨by omega, h2, fun x h0 hx => ?_⟩, by omega⟩
      by_cases e : x = p
      · rw [e]; exact q
      · exact h3 x (by omega) hx
theorem lsq_is {P : Int → Prop} {p e : Int} (h : p ≤ e) (he : P e) : isL P p (lsq P p) ∧ lsq P p ≤ e := by
  obtain ⟨q, h1, h2⟩ := isL_ex (P := P) (e - p).toNat p (by rw [show p + (((e - p).toNat : Nat) : Int) = e by omega]; exact he)
  rw [lsq_of h1]
  exact ⟨h1, by omega⟩
/-- 0 the end, 1 a letter, 2 a digit, 3 another sign -/
def kd (tx : Int → Int) (tl q : Int) : Int := if tl ≤ q then 0 else if 97 ≤ tx q ∧ tx q ≤ 122 then 1 else if 48 ≤ tx q ∧ tx q ≤ 57 then 2 else 3
theorem kd_0 {tx : Int → Int} {tl q : Int} (h : tl ≤ q) : kd tx tl q = 0 := if_pos h
theorem kd_1 {tx : Int → Int} {tl q : Int} (h : q < tl) (h1 : 97 ≤ tx q ∧ tx q ≤ 122) : kd tx tl q = 1 := by unfold kd; rw [if_neg (by omega), if_pos h1]
theorem kd_2 {tx : Int → Int} {tl q : Int} (h : q < tl) (h1 : ¬ (97 ≤ tx q ∧ tx q ≤ 122)) (h2 : 48 ≤ tx q ∧ tx q ≤ 57) : kd tx tl q = 2 := by unfold kd; rw [if_neg (by omega), if_neg h1, if_pos h2]
theorem kd_3 {tx : Int → Int} {tl q : Int} (h : q < tl) (h1 : ¬ (97 ≤ tx q ∧ tx q ≤ 122)) (h2 : ¬ (48 ≤ tx q ∧ tx q ≤ 57)) : kd tx tl q = 3 := by unfold kd; rw [if_neg (by omega), if_neg h1, if_neg h2]
theorem kd_bd (tx : Int → Int) (tl q : Int) : 0 ≤ kd tx tl q ∧ kd tx tl q ≤ 3 := by
  unfold kd
  split
  · decide
  · split
    · decide
    · split <;> decide
theorem kd_cases (tx : Int → Int) (tl q : Int) : (kd tx tl q = 0 ∧ tl ≤ q) ∨ (kd tx tl q = 1 ∧ q < tl ∧ 97 ≤ tx q ∧ tx q ≤ 122) ∨ (kd tx tl q = 2 ∧ q < tl ∧ 48 ≤ tx q ∧ tx q ≤ 57) ∨ (kd tx tl q = 3 ∧ q < tl ∧ ¬ (97 ≤ tx q ∧ tx q ≤ 122) ∧ ¬ (48 ≤ tx q ∧ tx q ≤ 57)) := by
  by_cases h : tl ≤ q
  · exact Or.inl ⟨kd_0 h, h⟩
  · by_cases h1 : 97 ≤ tx q ∧ tx q ≤ 122
    · exact Or.inr (Or.inl ⟨kd_1 (by omega) h1, by omega, h1.1, h1.2⟩)
    · by_cases h2 : 48 ≤ tx q ∧ tx q ≤ 57
      · exact Or.inr (Or.inr (Or.inl ⟨kd_2 (by omega) h1 h2, by omega, h2.1, h2.2⟩))
      · exact Or.inr (Or.inr (Or.inr ⟨kd_3 (by omega) h1 h2, by omega, h1, h2⟩))
def nsp (tx : Int → Int) (tl q : Int) : Prop := ¬ (q < tl ∧ tx q = 32)
/-- the token behind p: where it starts, its kind, where it ends -/
noncomputable def tS (tx : Int → Int) (tl p : Int) : Int := lsq (nsp tx tl) p
noncomputable def tK (tx : Int → Int) (tl p : Int) : Int := kd tx tl (tS tx tl p)
noncomputable def rnE (tx : Int → Int) (tl s k : Int) : Int := lsq (fun q => kd tx tl q ≠ k) (s + 1)
noncomputable def tE (tx : Int → Int) (tl p : Int) : Int := tif (tK tx tl p = 0) (tS tx tl p) (tif (tK tx tl p = 3) (tS tx tl p + 1) (rnE tx tl (tS tx tl p) (tK tx tl p)))
theorem tS_is {tx : Int → Int} {tl p : Int} (h : p ≤ tl) : isL (nsp tx tl) p (tS tx tl p) ∧ tS tx tl p ≤ tl := lsq_is h (fun q => absurd q.1 (by omega))
theorem rnE_is {tx : Int → Int} {tl s k : Int} (h : s < tl) (hk : k ≠ 0) : isL (fun q => kd tx tl q ≠ k) (s + 1) (rnE tx tl s k) ∧ rnE tx tl s k ≤ tl := lsq_is (by omega) (by show kd tx tl tl ≠ k; rw [kd_0 (Int.le_refl _)]; exact Ne.symm hk)
theorem tE_bd {tx : Int → Int} {tl p : Int} (h0 : 0 ≤ p) (h : p ≤ tl) : p ≤ tS tx tl p ∧ tS tx tl p ≤ tE tx tl p ∧ tE tx tl p ≤ tl ∧ (tK tx tl p ≠ 0 → tS tx tl p < tE tx tl p) := by
  obtain ⟨h1, h2⟩ := tS_is (tx := tx) h
  have h3 := h1.1
  unfold tE
  rcases kd_cases tx tl (tS tx tl p) with ⟨q, z⟩ | ⟨q, z⟩ | ⟨q, z⟩ | ⟨q, z⟩
  · have e : tK tx tl p = 0 := q
    rw [tif_t e]
    exact ⟨h3, by omega, by omega, fun z => absurd e z⟩
  · have e : tK tx tl p = 1 := q
    obtain ⟨h4, h5⟩ := rnE_is (tx := tx) (k := tK tx tl p) z.1 (by omega)
    have h6 := h4.1
    rw [tif_f (by omega), tif_f (by omega)]
    exact ⟨h3, by omega, by omega, fun _ => by omega⟩
  · have e : tK tx tl p = 2 := q
    obtain ⟨h4, h5⟩ := rnE_is (tx := tx) (k := tK tx tl p) z.1 (by omega)
    have h6 := h4.1
    rw [tif_f (by omega), tif_f (by omega)]
    exact ⟨h3, by omega, by omega, fun _ => by omega⟩
  · have e : tK tx tl p = 3 := q
    rw [tif_f (by omega), tif_t e]
    exact ⟨h3, by omega, by omega, fun _ => by omega⟩
/-- the value of a number, cut at 1000, after n digits from s on -/
def nv (tx : Int → Int) (s : Int) : Nat → Int
  | 0 => 0
  | n + 1 => min (nv tx s n * 10 + tx (s + (n : Int)) - 48) 1000
theorem nv_s (tx : Int → Int) (s : Int) (n : Nat) : nv tx s (n + 1) = min (nv tx s n * 10 + tx (s + (n : Int)) - 48) 1000 := rfl
/-- what the reference reckons: no more from 100000 on -/
def wn (tx : Int → Int) (s : Int) : Nat → Int
  | 0 => 0
  | n + 1 => if wn tx s n < 100000 then 10 * wn tx s n + tx (s + (n : Int)) - 48 else wn tx s n
theorem wn_s (tx : Int → Int) (s : Int) (n : Nat) : wn tx s (n + 1) = if wn tx s n < 100000 then 10 * wn tx s n + tx (s + (n : Int)) - 48 else wn tx s n := rfl
theorem wn_nv {tx : Int → Int} {s : Int} {n : Nat} (h : ∀ k : Int, 0 ≤ k → k < (n : Int) → 48 ≤ tx (s + k) ∧ tx (s + k) ≤ 57) : (0 ≤ wn tx s n ∧ wn tx s n ≤ 1000000) ∧ ((wn tx s n < 1000 ∧ nv tx s n = wn tx s n) ∨ (1000 ≤ wn tx s n ∧ nv tx s n = 1000)) := by
  induction n with
  | zero =>
    have e : wn tx s 0 = 0 := rfl
    have e2 : nv tx s 0 = 0 := rfl
    omega
  | succ n ih =>
    obtain ⟨h1, h2⟩ := ih (fun k h0 h1 => h k h0 (by omega))
    have h3 := h (n : Int) (by omega) (by omega)
    rw [wn_s, nv_s]
    split <;> omega
theorem nv_bd {tx : Int → Int} {s : Int} {n : Nat} (h : ∀ k : Int, 0 ≤ k → k < (n : Int) → 48 ≤ tx (s + k) ∧ tx (s + k) ≤ 57) : 0 ≤ nv tx s n ∧ nv tx s n ≤ 1000 := by
  have := wn_nv h
  omega
/-- the value of a word in the reference, after n letters from s on -/
def wv (tx : Int → Int) (s : Int) : Nat → Int
  | 0 => 0
  | n + 1 => if n < 8 then 27 * wv tx s n + tx (s + (n : Int)) - 97 + 1 else 0
theorem wv_s (tx : Int → Int) (s : Int) (n : Nat) : wv tx s (n + 1) = if n < 8 then 27 * wv tx s n + tx (s + (n : Int)) - 97 + 1 else 0 := rfl
theorem wv_bd {tx : Int → Int} {s : Int} {n : Nat} (h : ∀ k : Int, 0 ≤ k → k < (n : Int) → 97 ≤ tx (s + k) ∧ tx (s + k) ≤ 122) : 0 ≤ wv tx s n ∧ wv tx s n ≤ 282429536480 := by
  have key : ∀ m : Nat, m ≤ n → (m ≤ 8 → 0 ≤ wv tx s m ∧ wv tx s m < 27 ^ m) ∧ (8 < m → wv tx s m = 0) := by
    intro m
    induction m with
    | zero => intro _; exact ⟨fun _ => ⟨Int.le_refl _, show (0 : Int) < 27 ^ 0 by decide⟩, fun z => absurd z (by omega)⟩
    | succ m ih =>
      intro hm
      obtain ⟨h1, h2⟩ := ih (by omega)
      have h3 := h (m : Int) (by omega) (by omega)
      rw [wv_s]
      refine ⟨fun z => ?_, fun z => by rw [if_neg (by omega)]⟩
      rw [if_pos (by omega)]
      obtain ⟨h4, h5⟩ := h1 (by omega)
      rw [Int.pow_succ]
      omega
  have h9 := key n (Nat.le_refl _)
  rcases Nat.lt_or_ge 8 n with z | z
  · rw [h9.2 z]; decide
  · obtain ⟨h1, h2⟩ := h9.1 z
    have h3 : (27 : Int) ^ n ≤ 27 ^ 8 := by
      rcases (show n = 0 ∨ n = 1 ∨ n = 2 ∨ n = 3 ∨ n = 4 ∨ n = 5 ∨ n = 6 ∨ n = 7 ∨ n = 8 by omega) with e | e | e | e | e | e | e | e | e <;> rw [e] <;> decide
    omega
/-- a token is a word: its letters -/
def isW (tx : Int → Int) (s e : Int) (w : List Int) : Prop := e - s = (w.length : Int) ∧ ∀ k : Nat, k < w.length → tx (s + (k : Int)) = w.getD k 0
theorem wv_peel {tx : Int → Int} {s : Int} {n : Nat} {V : Int} (hl : ∀ k : Int, 0 ≤ k → k < (n : Int) → 97 ≤ tx (s + k) ∧ tx (s + k) ≤ 122) (hV : 0 < V) (h : wv tx s n = V) : ∃ m : Nat, n = m + 1 ∧ m < 8 ∧ wv tx s m = (V - 1) / 27 ∧ tx (s + (m : Int)) = 97 + (V - 1) % 27 := by
  cases n with
  | zero => exact absurd (show (0 : Int) = V from h) (by omega)
  | succ m =>
    rw [wv_s] at h
    have h3 := hl (m : Int) (by omega) (by omega)
    split at h
    · next z => exact ⟨m, rfl, z, by omega, by omega⟩
    · omega
