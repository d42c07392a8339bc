/-! more of what the methods say -/
noncomputable def tif (P : Prop) (a b : Int) : Int := @ite Int P (Classical.propDecidable P) a b
theorem tif_t {P : Prop} (h : P) (a b : Int) : tif P a b = a := @if_pos P (Classical.propDecidable P) h _ _ _
theorem tif_f {P : Prop} (h : ¬ P) (a b : Int) : tif P a b = b := @if_neg P (Classical.propDecidable P) h _ _ _
theorem tif_iff {P Q : Prop} (e : P ↔ Q) (a b : Int) : tif P a b = tif Q a b := by rw [propext e]
theorem sm_le {f g : Int → Int} {n : Nat} (h : ∀ j : Int, 0 ≤ j → j < (n : Int) → f j ≤ g j) : sm f n ≤ sm g n := by
  induction n with
  | zero => exact Int.le_refl _
  | succ n ih =>
    have h1 := ih (fun j h0 h1 => h j h0 (by omega))
    have h2 := h n (by omega) (by omega)
    rw [sm_s, sm_s]
    omega
theorem sm_lt {f g : Int → Int} {n : Nat} (h : ∀ j : Int, 0 ≤ j → j < (n : Int) → f j ≤ g j) {k : Int} (k0 : 0 ≤ k) (k1 : k < (n : Int)) (hk : f k < g k) : sm f n < sm g n := by
  induction n with
  | zero => omega
  | succ n ih =>
    have h2 := h n (by omega) (by omega)
    rw [sm_s, sm_s]
    by_cases e : k = (n : Int)
    · subst e
      have h1 := sm_le (f := f) (g := g) (n := n) (fun j h0 h1 => h j h0 (by omega))
      omega
    · have h1 := ih (fun j h0 h1 => h j h0 (by omega)) (by omega)
      omega
theorem sm_nn {f : Int → Int} {n : Nat} (h : ∀ j : Int, 0 ≤ j → 0 ≤ f j) : 0 ≤ sm f n := by
  induction n with
  | zero => exact Int.le_refl _
  | succ n ih => rw [sm_s]; have := h n (by omega); omega
theorem sm_mono {f : Int → Int} {n k : Nat} (hk : n ≤ k) (h : ∀ j : Int, 0 ≤ j → 0 ≤ f j) : sm f n ≤ sm f k := by
  induction k with
  | zero => rw [show n = 0 by omega]; exact Int.le_refl _
  | succ k ih =>
    by_cases e : n = k + 1
    · rw [e]; exact Int.le_refl _
    · have h1 := ih (by omega)
      have h2 := h k (by omega)
      rw [sm_s]
      omega
def lk (p lo e : Int) : Int := if p < lo then lo - p else if lo + e < p then lo + e - p else 0
theorem lk_lo {p lo e : Int} (h : p < lo) : lk p lo e = lo - p := if_pos h
theorem lk_hi {p lo e : Int} (h : lo ≤ p) (h2 : lo + e < p) : lk p lo e = lo + e - p := by
  unfold lk; rw [if_neg (by omega), if_pos h2]
theorem lk_in {p lo e : Int} (h : lo ≤ p) (h2 : p ≤ lo + e) : lk p lo e = 0 := by
  unfold lk; rw [if_neg (by omega), if_neg (by omega)]
noncomputable def lack (g : Int → Int) (c a m : Int) : Int := lk (pres g c m) (gA g a m) (gS g m)
theorem lack_bd {g : Int → Int} (hI : Inv g) {c a m : Int} (h0 : 0 ≤ c) (h1 : c < g 0) (a0 : 0 ≤ a) (a1 : a < g 1) (m0 : 0 ≤ m) (m1 : m < 3) : -400 ≤ lack g c a m ∧ lack g c a m ≤ 400 := by
  have hp := pres_bd hI h0 h1 m0 m1
  have hm := iv_me hI a0 a1 m0 m1
  have he := iv_es hI m0 m1
  unfold lack lk
  split
  · omega
  · split <;> omega
theorem zabs_bd {a : Int} {n : Int} (h : -n ≤ a ∧ a ≤ n) : 0 ≤ zabs a ∧ zabs a ≤ n := by
  unfold zabs
  split <;> omega
theorem zabs_nn (a : Int) : 0 ≤ zabs a := by unfold zabs; split <;> omega
theorem zabs_le (a n : Int) : zabs a ≤ n ↔ -n ≤ a ∧ a ≤ n := by unfold zabs; split <;> omega
noncomputable def mis (g : Int → Int) (c a : Int) : Int := sm (fun m => zabs (lack g c a m)) 3
theorem mis_bd {g : Int → Int} (hI : Inv g) {c a : Int} (h0 : 0 ≤ c) (h1 : c < g 0) (a0 : 0 ≤ a) (a1 : a < g 1) : 0 ≤ mis g c a ∧ mis g c a ≤ 1200 := by
  have h := sm_bd (f := fun m => zabs (lack g c a m)) (n := 3) (lo := 0) (hi := 400) (fun m m0 m1 => zabs_bd (lack_bd hI h0 h1 a0 a1 m0 (by omega)))
  unfold mis
  omega
def bad (g : Int → Int) (c a m : Int) : Prop := lack g c a m ≠ 0 ∧ (10 < zabs (lack g c a m) ∨ ¬ alw g (pres g c m) c m (lack g c a m))
noncomputable def need (g : Int → Int) (c a : Int) (n : Nat) : Int := sm (fun m => ti (lack g c a m ≠ 0)) n
def lOK (g : Int → Int) (c a : Int) : Prop := (∀ m : Int, 0 ≤ m → m < 3 → ¬ bad g c a m) ∧ need g c a 3 ≤ 6 - gC g c 7
noncomputable def lst (g : Int → Int) (c a : Int) : Int := tif (lOK g c a) (mis g c a) (-2009)
theorem need_mono (g : Int → Int) (c a : Int) {i : Nat} (h : i ≤ 3) : need g c a i ≤ need g c a 3 := sm_mono h (fun j _ => (ti_01 _).1)
theorem need_bd (g : Int → Int) (c a : Int) (i : Nat) : 0 ≤ need g c a i ∧ need g c a i ≤ (i : Int) := sm_01 (fun j => ti_01 _)
theorem lst_bd {g : Int → Int} (hI : Inv g) {c a : Int} (h0 : 0 ≤ c) (h1 : c < g 0) (a0 : 0 ≤ a) (a1 : a < g 1) : lst g c a = -2009 ∨ (0 ≤ lst g c a ∧ lst g c a ≤ 1200) := by
  rcases Classical.em (lOK g c a) with h | h
  · right; unfold lst; rw [tif_t h]; exact mis_bd hI h0 h1 a0 a1
  · left; unfold lst; rw [tif_f h]
/-! bits -/
def pw (k : Int) : Int := 2 ^ k.toNat
theorem pw_s (i : Nat) : pw ((i + 1 : Nat) : Int) = 2 * pw (i : Int) := by
  show (2 : Int) ^ (((i + 1 : Nat) : Int).toNat) = 2 * 2 ^ ((i : Int).toNat)
  rw [Int.toNat_natCast, Int.toNat_natCast, Int.pow_succ, Int.mul_comm]
theorem pw_0 : pw ((0 : Nat) : Int) = 1 := rfl
theorem pw_pos (k : Int) : 0 < pw k := Int.pow_pos (by decide)
theorem pw_le {i k : Nat} (h : i ≤ k) : pw (i : Int) ≤ pw (k : Int) := by
  induction k with
  | zero => rw [show i = 0 by omega]; exact Int.le_refl _
  | succ k ih =>
    by_cases e : i = k + 1
    · rw [e]; exact Int.le_refl _
    · have := ih (by omega); have := pw_pos (k : Int); rw [pw_s]; omega
theorem zi_shl : ∀ k : Fin 31, zI 1 <<< (zI (k.val : Int) &&& 31) = zI (pw (k.val : Int)) := by decide +kernel
theorem zi_pw {k : Int} (h0 : 0 ≤ k) (h1 : k < 31) : zI 1 <<< (zI k &&& 31) = zI (pw k) := by
  have h := zi_shl ⟨k.toNat, by omega⟩
  have e : ((k.toNat : Nat) : Int) = k := by omega
  simp only [e] at h
  exact h
def bit (n k : Int) : Prop := n / pw k % 2 = 1
theorem zi_bv {n : Int} (h0 : 0 ≤ n) (h1 : n ≤ 2147483647) : (zI n).toBitVec = BitVec.ofNat 32 n.toNat := by
  have e : n = ((n.toNat : Nat) : Int) := by omega
  have h : zI n = Int32.ofNat n.toNat := by
    rw [← zi_nat, ← e]
  rw [h]
  rfl
/-! a state is awy: plans -/
def tkn (g : Int → Int) (sc a c : Int) : Prop := (0 ≤ sc ∧ sc < 12) ∧ ti (gW g sc a = c) < wrs g sc c
def fre (g : Int → Int) (sc a c : Int) : Prop := (¬ tkn g sc a c ∧ ¬ tkn g (sc - 1) a c ∧ ¬ tkn g (sc + 1) a c) ∧ ¬ awy g c (g 3) 1 ∧ gC g c 6 < gS g 3
def better (g : Int → Int) (sc a b k : Int) : Prop := (fre g sc a k ∧ lst g k a ≠ -2009) ∧ (b = -2009 ∨ lst g k a < lst g b a)
noncomputable def bst (g : Int → Int) (sc a : Int) : Nat → Int
  | 0 => -2009
  | n + 1 => tif (better g sc a (bst g sc a n) (n : Int)) (n : Int) (bst g sc a n)
theorem bst_s (g : Int → Int) (sc a : Int) (n : Nat) : bst g sc a (n + 1) = tif (better g sc a (bst g sc a n) (n : Int)) (n : Int) (bst g sc a n) := rfl
theorem bst_bd (g : Int → Int) (sc a : Int) (n : Nat) : bst g sc a n = -2009 ∨ (0 ≤ bst g sc a n ∧ bst g sc a n < (n : Int)) := by
  induction n with
  | zero => exact Or.inl rfl
  | succ n ih =>
    rw [bst_s]
    rcases Classical.em (better g sc a (bst g sc a n) (n : Int)) with h | h
    · rw [tif_t h]; omega
    · rw [tif_f h]; omega
def cwP (code prog : Int) : Prop := (code = 0 ∧ prog < 3) ∨ (code ≠ 0 ∧ code ≤ prog)
noncomputable def aset (g : Int → Int) (n : Nat) : Int := sm (fun k => ti (awy g k (g 3) 1) * pw k) n
def dty (g : Int → Int) (prog col k : Int) : Prop := (prog = 3 ∨ gC g k 5 = col) ∧ 0 < gC g k 6 ∧ ¬ awy g k (g 3) 1 ∧ cwP (gC g k 4) prog
noncomputable def dset (g : Int → Int) (prog col : Int) (n : Nat) : Int := sm (fun k => ti (dty g prog col k) * pw k) n
theorem sbits_bd (P : Int → Prop) (n : Nat) : 0 ≤ sm (fun k => ti (P k) * pw k) n ∧ sm (fun k => ti (P k) * pw k) n < pw (n : Int) := by
  induction n with
  | zero => exact ⟨Int.le_refl _, by rw [sm_0]; exact pw_pos _⟩
  | succ n ih =>
    have h := pw_pos (n : Int)
    rw [sm_s, pw_s]
    rcases ti_or (P (n : Int)) with q | q
    · rw [q]; omega
    · rw [q]; omega
noncomputable def cnb (n : Int) (m : Nat) : Int := sm (fun k => ti (bit n k)) m
def hasC (g : Int → Int) (ld col : Int) (n : Int) : Prop := ∃ k : Int, 0 ≤ k ∧ k < n ∧ bit ld k ∧ gC g k 5 = col
def ldP (g : Int → Int) (prog ld : Int) : Prop := (∀ k : Int, 0 ≤ k → k < g 0 → bit ld k → ¬ awy g k (g 3) 1 ∧ cwP (gC g k 4) prog) ∧ cnb ld (g 0).toNat ≤ 5 ∧ (prog = 3 ∨ ¬ (hasC g ld 0 (g 0) ∧ hasC g ld 1 (g 0)))
/-! problems -/
noncomputable def pb0 (g : Int → Int) : Int := sm (fun sc => sm (fun c => ti (1 < wrs g sc c)) (g 0).toNat) 12
noncomputable def pb1 (g : Int → Int) : Int := sm (fun sc => sm (fun c => ti (hnd g sc c)) (g 0).toNat) 11
def ams (g : Int → Int) (k c a : Int) : Prop := (k = 2 ∧ 0 < mis g c a) ∨ (k = 3 ∧ awy g c (g 3) 1) ∨ (k = 4 ∧ gS g 3 ≤ gC g c 6)
def amw (g : Int → Int) (k sc a : Int) : Prop := gW g sc a ≠ -1 ∧ ams g k (gW g sc a) a
noncomputable def pb2 (g : Int → Int) (k : Int) : Int := sm (fun sc => sm (fun a => ti (amw g k sc a)) (g 1).toNat) 12
noncomputable def prb (g : Int → Int) (k : Int) : Int := if k = 0 then pb0 g else if k = 1 then pb1 g else pb2 g k
theorem sm2_bd {P : Int → Int → Prop} {n m : Nat} : 0 ≤ sm (fun i => sm (fun j => ti (P i j)) n) m ∧ sm (fun i => sm (fun j => ti (P i j)) n) m ≤ (m : Int) * (n : Int) := by
  have h := sm_bd (f := fun i => sm (fun j => ti (P i j)) n) (n := m) (lo := 0) (hi := (n : Int)) (fun i _ _ => sm_01 (fun j => ti_01 _))
  omega
theorem prb_bd {g : Int → Int} (hI : Inv g) (k : Int) : 0 ≤ prb g k ∧ prb g k ≤ 200 := by
  have h0 := iv_nC hI
  have h1 := iv_nA hI
  unfold prb pb0 pb1 pb2
  split
  · have h := sm2_bd (P := fun sc c => 1 < wrs g sc c) (n := (g 0).toNat) (m := 12)
    omega
  · split
    · have h := sm2_bd (P := fun sc c => hnd g sc c) (n := (g 0).toNat) (m := 11)
      omega
    · have h := sm2_bd (P := fun sc a => amw g k sc a) (n := (g 1).toNat) (m := 12)
      omega
/-! the first day from which on a costume is free for n days -/
def isFF (g : Int → Int) (c n d : Int) : Prop := g 3 ≤ d ∧ ¬ awy g c d n ∧ ∀ x : Int, g 3 ≤ x → x < d → awy g c x n
theorem isFF_u {g : Int → Int} {c n d d' : Int} (h : isFF g c n d) (h' : isFF g c n d') : d = d' := by
  rcases Int.lt_trichotomy d d' with q | q | q
  · exact absurd (h'.2.2 d h.1 q) h.2.1
  · exact q
  · exact absurd (h.2.2 d' h'.1 q) h'.2.1
noncomputable def ffd (g : Int → Int) (c n : Int) : Int := Classical.epsilon (fun d => isFF g c n d)
theorem ffd_of {g : Int → Int} {c n d : Int} (h : isFF g c n d) : ffd g c n = d := isFF_u (Classical.epsilon_spec (p := fun d => isFF g c n d) ⟨d, h⟩) h
noncomputable def ffc (g : Int → Int) (c d : Int) : Int := sm (fun h => ti (gH g h 0 = c ∧ d < gH g h 1 + gH g h 2)) (g 2).toNat
theorem ffc_bd {g : Int → Int} (hI : Inv g) (c d : Int) : 0 ≤ ffc g c d ∧ ffc g c d ≤ 24 := by
  have h := sm_01 (f := fun h => ti (gH g h 0 = c ∧ d < gH g h 1 + gH g h 2)) (n := (g 2).toNat) (fun j => ti_01 _)
  have h2 := iv_nH hI
  unfold ffc
  omega
theorem ffc_dec {g : Int → Int} {c d n h : Int} (h0 : 0 ≤ h) (h1 : h < g 2) (ho : ovl g c d n h) : ffc g c (gH g h 1 + gH g h 2) < ffc g c d := by
  unfold ffc
  refine sm_lt (fun j _ _ => ?_) (k := h) h0 (by omega) ?_
  · rcases Classical.em (gH g j 0 = c ∧ gH g h 1 + gH g h 2 < gH g j 1 + gH g j 2) with q | q
    · have hd := ho.2.2
      rw [ti_t q, ti_t (show gH g j 0 = c ∧ d < gH g j 1 + gH g j 2 from ⟨q.1, by omega⟩)]
      exact Int.le_refl _
    · rw [ti_f q]
      exact (ti_01 _).1
  · rw [ti_f (fun q => by omega), ti_t ⟨ho.1, ho.2.2⟩]
    decide
theorem awy_step {g : Int → Int} {c d n h x : Int} (h0 : 0 ≤ h) (h1 : h < g 2) (ho : ovl g c d n h) (hx : d ≤ x) (hx2 : x < gH g h 1 + gH g h 2) : awy g c x n := by
  have a := ho.2.1
  exact ⟨h, h0, h1, ho.1, by omega, hx2⟩
theorem zi_nI {n : Int} (h0 : 0 ≤ n) : zI n = nI n.toNat := by
  have e : n = ((n.toNat : Nat) : Int) := by omega
  rw [e, zi_nat]
  rfl
theorem zi_cnt : ∀ k : Fin 32, ((zI (k.val : Int) &&& 31).toBitVec.smod 32).toNat = k.val := by decide +kernel
theorem pw_nat (k : Nat) : pw (k : Int) = ((2 ^ k : Nat) : Int) := by
  show (2 : Int) ^ ((k : Int).toNat) = _
  rw [Int.toNat_natCast, Int.natCast_pow]
  rfl
theorem zi_shr {n k : Int} (h0 : 0 ≤ n) (h1 : n ≤ 2147483647) (k0 : 0 ≤ k) (k1 : k < 31) : zI n >>> (zI k &&& 31) = zI (n / pw k) := by
  have hk : k = ((k.toNat : Nat) : Int) := by omega
  have hc := zi_cnt ⟨k.toNat, by omega⟩
  rw [show ((⟨k.toNat, by omega⟩ : Fin 32).val) = k.toNat from rfl, ← hk] at hc
  have hn : n / pw k = ((n.toNat / 2 ^ k.toNat : Nat) : Int) := by
    rw [hk, pw_nat, Int.natCast_ediv, ← hk]
    congr 1
    omega
  rw [zi_nI h0, pk_shrN (by omega) _ _ hc, hn, zi_nat]
  rfl
theorem zi_and1 {n : Int} (h0 : 0 ≤ n) (h1 : n ≤ 2147483647) : zI n &&& zI 1 = zI (n % 2) := by
  rw [zi_nI h0, pk_andN (by omega) 1 (by decide), show n % 2 = ((n.toNat % 2 ^ 1 : Nat) : Int) by omega, zi_nat]
  rfl
theorem zi_or {x k : Int} (h0 : 0 ≤ x) (h1 : x < pw k) (k0 : 0 ≤ k) (k1 : k < 31) : zI x ||| zI (pw k) = zI (x + pw k) := by
  have hk : k = ((k.toNat : Nat) : Int) := by omega
  have hp : pw k = ((2 ^ k.toNat : Nat) : Int) := by rw [hk, pw_nat, ← hk]
  rw [hp] at h1 ⊢
  have e1 : x + ((2 ^ k.toNat : Nat) : Int) = ((x.toNat ||| 2 ^ k.toNat : Nat) : Int) := by
    have h2 := Nat.two_pow_add_eq_or_of_lt (show x.toNat < 2 ^ k.toNat by omega) 1
    rw [Nat.mul_one] at h2
    rw [Nat.or_comm, ← h2]
    omega
  rw [e1, zi_nI h0, zi_nat, zi_nat]
  show Int32.ofNat x.toNat ||| Int32.ofNat (2 ^ k.toNat) = Int32.ofNat (x.toNat ||| 2 ^ k.toNat)
  first | exact (Int32.ofNat_or _ _).symm | (apply Int32.toBitVec_inj.mp; simp)
theorem bit_in {n k : Int} (h0 : 0 ≤ n) (h : bit n k) : pw k ≤ n := by
  unfold bit at h
  rcases Int.lt_or_le n (pw k) with q | q
  · rw [Int.ediv_eq_zero_of_lt h0 q] at h
    exact absurd h (by decide)
  · exact q
/-- the four sets of programs -/
theorem cw_bits : ∀ (code prog : Fin 4), bit ([7, 14, 12, 8].getD code.val 0) (prog.val : Int) ↔ cwP (code.val : Int) (prog.val : Int) := by
  unfold bit cwP pw
  decide
theorem bst_no {g : Int → Int} {sc a : Int} {n : Nat} (h : ¬ better g sc a (bst g sc a n) (n : Int)) : bst g sc a (n + 1) = bst g sc a n := by rw [bst_s, tif_f h]
theorem bst_yes {g : Int → Int} {sc a : Int} {n : Nat} (h : better g sc a (bst g sc a n) (n : Int)) : bst g sc a (n + 1) = (n : Int) := by rw [bst_s, tif_t h]
theorem sm_no {P : Int → Prop} {n : Nat} {y x : Int} (e : y = x + sm (fun a => ti (P a)) n) (h : ¬ P (n : Int)) : y = x + sm (fun a => ti (P a)) (n + 1) := by
  rw [sm_s, ti_f h, e]; omega
theorem sm_yes {P : Int → Prop} {n : Nat} {y x : Int} (e : y = x + sm (fun a => ti (P a)) n) (h : P (n : Int)) : y + 1 = x + sm (fun a => ti (P a)) (n + 1) := by
  rw [sm_s, ti_t h, e]; omega
theorem prb_0 {g : Int → Int} {k : Int} (h : k = 0) : prb g k = pb0 g := if_pos h
theorem prb_1 {g : Int → Int} {k : Int} (h : k = 1) : prb g k = pb1 g := by unfold prb; rw [if_neg (by omega), if_pos h]
theorem prb_2 {g : Int → Int} {k : Int} (h : ¬ k = 0) (h1 : ¬ k = 1) : prb g k = pb2 g k := by unfold prb; rw [if_neg h, if_neg h1]
