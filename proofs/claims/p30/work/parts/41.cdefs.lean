/-! what the class's last public methods need: states that agree, a set's shift, washing aside, cells behind the State -/
theorem rel_congr {σ : Nat → Int → Int} {g g' : Int → Int} (h : Rel σ g) (hI : Inv g) (e : ∀ x : Int, 0 ≤ x → x < 572 → g' x = g x) : Rel σ g' := by
  have b0 := iv_nC hI
  have b1 := iv_nA hI
  have b2 := iv_nH hI
  have e0 := e 0 (by decide) (by decide)
  have e1 := e 1 (by decide) (by decide)
  have e2 := e 2 (by decide) (by decide)
  have eC : ∀ c p : Int, 0 ≤ c → c < g 0 → 0 ≤ p → p < 20 → gC g' c p = gC g c p := fun c p c0 c1 p0 p1 => e _ (by omega) (by omega)
  obtain ⟨⟨a0, a1, a2, a3, a4⟩, ⟨n0, n1, n2⟩, hs, hc, ha, hh⟩ := h
  refine ⟨⟨a0.trans (e 3 (by decide) (by decide)).symm, a1.trans (e 4 (by decide) (by decide)).symm, a2.trans (e 5 (by decide) (by decide)).symm, a3.trans (e 6 (by decide) (by decide)).symm, a4.trans (e 7 (by decide) (by decide)).symm⟩, ⟨n0.trans e0.symm, n1.trans e1.symm, n2.trans e2.symm⟩, fun i i0 i1 => (hs i i0 i1).trans (e _ (by omega) (by omega)).symm, fun c c0 c1 => ?_, fun a a0 a1 => ?_, fun k k0 k1 => ?_⟩
  · rw [e0] at c1
    obtain ⟨q1, q2, q3, q4, q5, q6, q7⟩ := hc c c0 c1
    have hna := iv_na hI c0 c1
    refine ⟨fun m m0 m1 => (q1 m m0 m1).trans (eC c m c0 c1 m0 (by omega)).symm, q2.trans (eC c 3 c0 c1 (by decide) (by decide)).symm, q3.trans (eC c 4 c0 c1 (by decide) (by decide)).symm, q4.trans (eC c 5 c0 c1 (by decide) (by decide)).symm, q5.trans (eC c 6 c0 c1 (by decide) (by decide)).symm, q6.trans (eC c 7 c0 c1 (by decide) (by decide)).symm, fun k k0 k1 => ?_⟩
    rw [eC c 7 c0 c1 (by decide) (by decide)] at k1
    exact ⟨(q7 k k0 k1).1.trans (eC c (8 + 2 * k) c0 c1 (by omega) (by omega)).symm, (q7 k k0 k1).2.trans (eC c (8 + 2 * k + 1) c0 c1 (by omega) (by omega)).symm⟩
  · rw [e1] at a1
    obtain ⟨q1, q2⟩ := ha a a0 a1
    exact ⟨fun m m0 m1 => (q1 m m0 m1).trans (e _ (by omega) (by omega)).symm, fun sc s0 s1 => (q2 sc s0 s1).trans (e _ (by omega) (by omega)).symm⟩
  · rw [e2] at k1
    obtain ⟨q1, q2, q3, q4, q5⟩ := hh k k0 k1
    exact ⟨q1.trans (e _ (by omega) (by omega)).symm, q2.trans (e _ (by omega) (by omega)).symm, q3.trans (e _ (by omega) (by omega)).symm, q4.trans (e _ (by omega) (by omega)).symm, q5.trans (e _ (by omega) (by omega)).symm⟩
theorem inv_congr {g g' : Int → Int} (hI : Inv g) (e : ∀ x : Int, 0 ≤ x → x < 572 → g' x = g x) : Inv g' := by
  have b0 := iv_nC hI
  have b1 := iv_nA hI
  have b2 := iv_nH hI
  have b3 := iv_to hI
  have e0 := e 0 (by decide) (by decide)
  have e1 := e 1 (by decide) (by decide)
  have e2 := e 2 (by decide) (by decide)
  have e3 := e 3 (by decide) (by decide)
  have eC : ∀ c p : Int, 0 ≤ c → c < g 0 → 0 ≤ p → p < 20 → gC g' c p = gC g c p := fun c p c0 c1 p0 p1 => e _ (by omega) (by omega)
  refine ⟨by rw [e0]; exact b0, by rw [e1]; exact b1, by rw [e2]; exact b2, by rw [e3]; exact b3, fun m m0 m1 => ?_, ?_, fun c c0 c1 => ?_, fun a a0 a1 => ?_, fun k k0 k1 => ?_⟩
  · have := iv_es hI m0 m1
    have q : gS g' m = gS g m := e _ (by omega) (by omega)
    rw [q]; exact this
  · have q : gS g' 3 = gS g 3 := e _ (by decide) (by decide)
    rw [q]; exact iv_dl hI
  · rw [e0] at c1
    have hna := iv_na hI c0 c1
    refine ⟨fun m m0 m1 => by rw [eC c m c0 c1 m0 (by omega)]; exact iv_or hI c0 c1 m0 m1, by rw [eC c 3 c0 c1 (by decide) (by decide)]; exact iv_al hI c0 c1, by rw [eC c 4 c0 c1 (by decide) (by decide)]; exact iv_co hI c0 c1, by rw [eC c 5 c0 c1 (by decide) (by decide)]; exact iv_cl hI c0 c1, by rw [eC c 6 c0 c1 (by decide) (by decide)]; exact iv_di hI c0 c1, by rw [eC c 7 c0 c1 (by decide) (by decide)]; exact hna, fun k k0 k1 => ?_⟩
    rw [eC c 7 c0 c1 (by decide) (by decide)] at k1
    have q1 : gM g' c k = gM g c k := eC c (8 + 2 * k) c0 c1 (by omega) (by omega)
    have q2 : gX g' c k = gX g c k := eC c (8 + 2 * k + 1) c0 c1 (by omega) (by omega)
    rw [q1, q2]
    exact ⟨iv_am hI c0 c1 k0 k1, iv_ac hI c0 c1 k0 k1⟩
  · rw [e1] at a1
    refine ⟨fun m m0 m1 => ?_, fun sc s0 s1 => ?_⟩
    · have q : gA g' a m = gA g a m := e _ (by omega) (by omega)
      rw [q]; exact iv_me hI a0 a1 m0 m1
    · have q : gW g' sc a = gW g sc a := e _ (by omega) (by omega)
      rw [q, e0]; exact iv_wo hI a0 a1 s0 s1
  · rw [e2] at k1
    have q : ∀ p : Int, 0 ≤ p → p < 5 → gH g' k p = gH g k p := fun p p0 p1 => e _ (by omega) (by omega)
    rw [q 0 (by decide) (by decide), q 1 (by decide) (by decide), q 2 (by decide) (by decide), q 3 (by decide) (by decide), q 4 (by decide) (by decide), e0]
    exact iv_hi hI k0 k1
theorem cpy_in (f h : Int → Int) (x : Int) (h0 : 0 ≤ x) (h1 : x < 572) : cpy f h 0 572 x = h x := by
  unfold cpy
  rw [if_pos (by omega), Int.sub_zero]
theorem ush_k : ∀ k : Fin 17, ((zI (k.val : Int)).toUInt32 &&& Int32.toUInt32 31).toNat % 32 = k.val := by decide +kernel
/-- an unsigned shift by the number of costumes: zero for the sets of costumes alone -/
theorem ush {ld n : Int} (h0 : 0 ≤ n) (h1 : n ≤ 16) (hl : -2147483648 ≤ ld ∧ ld ≤ 2147483647) : ∃ d : Int, (-2147483648 ≤ d ∧ d ≤ 2147483647) ∧ ((zI ld).toUInt32 >>> ((zI n).toUInt32 &&& Int32.toUInt32 31)).toInt32 = zI d ∧ (d = 0 ↔ (0 ≤ ld ∧ ld < pw n)) := by
  obtain ⟨u, hu⟩ : ∃ u : UInt32, u = (zI ld).toUInt32 >>> ((zI n).toUInt32 &&& Int32.toUInt32 31) := ⟨_, rfl⟩
  rw [← hu]
  have hk := ush_k ⟨n.toNat, by omega⟩
  have en : ((n.toNat : Nat) : Int) = n := by omega
  simp only [en] at hk
  have e1 : (zI ld).toUInt32.toNat = (ld % 4294967296).toNat := BitVec.toNat_ofInt ..
  have e2 : u.toNat = (ld % 4294967296).toNat / 2 ^ n.toNat := by
    rw [hu, UInt32.toNat_shiftRight, hk, Nat.shiftRight_eq_div_pow, e1]
  have e3 : (u.toInt32 = 0) ↔ u.toNat = 0 := by
    constructor
    · intro h
      have h2 : u.toInt32.toUInt32 = (0 : Int32).toUInt32 := by rw [h]
      have h3 : u = 0 := h2
      rw [h3]
      rfl
    · intro h
      have h3 : u = 0 := UInt32.toNat_inj.mp (by rw [h]; rfl)
      rw [h3]
      rfl
  have hp : pw n = ((2 ^ n.toNat : Nat) : Int) := by
    have := pw_nat n.toNat
    rw [en] at this
    exact this
  have hp2 : (2 ^ n.toNat : Nat) ≤ 65536 := by
    have := pw16 h0 h1
    omega
  have hp3 : 0 < (2 ^ n.toNat : Nat) := Nat.pow_pos (by decide)
  refine ⟨u.toInt32.toInt, ⟨by have := Int32.le_toInt u.toInt32; omega, by have := Int32.toInt_lt u.toInt32; omega⟩, (Int32.ofInt_toInt _).symm, ?_⟩
  have e4 : u.toInt32.toInt = 0 ↔ u.toInt32 = 0 := by
    rw [← Int32.toInt_inj]
    exact Iff.rfl
  rw [e4, e3, e2, Nat.div_eq_zero_iff, hp]
  constructor
  · rintro (h | h)
    · omega
    · omega
  · intro h
    exact Or.inr (by omega)
theorem zu_sw (f : Int → Int) {a b : Int} (h : a ≠ b) (x y : Int) : zu (zu f a x) b y = zu (zu f b y) a x := by
  funext j
  unfold zu
  by_cases e : j = a
  · rw [if_neg (show ¬ j = b by omega), if_pos e, if_pos e]
  · rw [if_neg e, if_neg e]
theorem clnG_6 (g : Int → Int) (ld st v : Int) (n : Nat) : clnG (zu g 6 v) ld st n = zu (clnG g ld st n) 6 v := by
  induction n with
  | zero => rfl
  | succ n ih =>
    rcases Classical.em (bit ld (n : Int)) with h | h
    · rw [clnG_y h, clnG_y h, ih, gC_n (by omega), zu_sw _ (by omega)]
    · rw [clnG_n h, clnG_n h, ih]
theorem less_6 (g : Int → Int) (ld st v : Int) (n : Nat) : sm (fun k => less (zu g 6 v) ld st k) n = sm (fun k => less g ld st k) n := sm_congr (fun j h0 h1 => by
  unfold less
  rw [gC_n (by omega)])
theorem tbD_9 (p : Int) : 0 ≤ tbD p ∧ tbD p ≤ 9 := by
  have := tbD_bd p
  omega
/-! cells behind the State that are written -/
section CYW
variable {D : va_G} {cI : ClassId} {ad : Nat → Nat} {tl : Int} {tx rd rp : Int → Int} {H H1 : Heap}
theorem cY_rd (rd' : Int → Int) (hJ : zJ ad 127) (h : cY D cI ad tl tx rd rp H) (hk : ∀ q : Nat, q < H.size → q ≠ ad 123 → H1[q]? = H[q]?) (hO : va_at D vwCl (ad 123, .inr (3, [.int (zI (rd' 0)), .int (zI (rd' 1)), .int (zI (rd' 2)), .int (zI (rd' 3)), .int (zI (rd' 4)), .int (zI (rd' 5)), .ref (ad 121), .ref (ad 124)])) H1) : cY D cI ad tl tx rd' rp H1 := by
  obtain ⟨h0, h1, h2, h3, h4⟩ := h
  exact ⟨h0.kept (hk _ h0.lt (fun e => absurd (hJ 120 123 (by decide) (by decide) e) (by decide))), h1.kept (hk _ h1.lt (fun e => absurd (hJ 121 123 (by decide) (by decide) e) (by decide))), h2.kept (hk _ h2.lt (fun e => absurd (hJ 122 123 (by decide) (by decide) e) (by decide))), hO, h4.kept (hk _ h4.lt (fun e => absurd (hJ 124 123 (by decide) (by decide) e) (by decide)))⟩
theorem cY_tl (tl' : Int) (hJ : zJ ad 127) (h : cY D cI ad tl tx rd rp H) (hk : ∀ q : Nat, q < H.size → q ≠ ad 121 → H1[q]? = H[q]?) (hO : va_at D vwCl (ad 121, .inr (5, [.int (zI tl'), .ref (ad 122)])) H1) : cY D cI ad tl' tx rd rp H1 := by
  obtain ⟨h0, h1, h2, h3, h4⟩ := h
  exact ⟨h0.kept (hk _ h0.lt (fun e => absurd (hJ 120 121 (by decide) (by decide) e) (by decide))), hO, h2.kept (hk _ h2.lt (fun e => absurd (hJ 122 121 (by decide) (by decide) e) (by decide))), h3.kept (hk _ h3.lt (fun e => absurd (hJ 123 121 (by decide) (by decide) e) (by decide))), h4.kept (hk _ h4.lt (fun e => absurd (hJ 124 121 (by decide) (by decide) e) (by decide)))⟩
theorem cY_tx (tx' : Int → Int) (hJ : zJ ad 127) (h : cY D cI ad tl tx rd rp H) (hk : ∀ q : Nat, q < H.size → q ≠ ad 122 → H1[q]? = H[q]?) (hO : va_at D vwCl (ad 122, .inl (cI, 120, .inl (zf tx'))) H1) : cY D cI ad tl tx' rd rp H1 := by
  obtain ⟨h0, h1, h2, h3, h4⟩ := h
  exact ⟨h0.kept (hk _ h0.lt (fun e => absurd (hJ 120 122 (by decide) (by decide) e) (by decide))), h1.kept (hk _ h1.lt (fun e => absurd (hJ 121 122 (by decide) (by decide) e) (by decide))), hO, h3.kept (hk _ h3.lt (fun e => absurd (hJ 123 122 (by decide) (by decide) e) (by decide))), h4.kept (hk _ h4.lt (fun e => absurd (hJ 124 122 (by decide) (by decide) e) (by decide)))⟩
theorem cY_rp (rp' : Int → Int) (hJ : zJ ad 127) (h : cY D cI ad tl tx rd rp H) (hk : ∀ q : Nat, q < H.size → q ≠ ad 124 → H1[q]? = H[q]?) (hO : va_at D vwCl (ad 124, .inl (cI, 168, .inl (zf rp'))) H1) : cY D cI ad tl tx rd rp' H1 := by
  obtain ⟨h0, h1, h2, h3, h4⟩ := h
  exact ⟨h0.kept (hk _ h0.lt (fun e => absurd (hJ 120 124 (by decide) (by decide) e) (by decide))), h1.kept (hk _ h1.lt (fun e => absurd (hJ 121 124 (by decide) (by decide) e) (by decide))), h2.kept (hk _ h2.lt (fun e => absurd (hJ 122 124 (by decide) (by decide) e) (by decide))), h3.kept (hk _ h3.lt (fun e => absurd (hJ 123 124 (by decide) (by decide) e) (by decide))), hO⟩
end CYW
theorem zT_after {bs : Nat} {U : State} {H H1 : Heap} {A : Nat → Prop} (h : zT bs U H) (hk : ∀ q : Nat, q < H.size → ¬ A q → H1[q]? = H[q]?) (hA : ∀ q : Nat, q < H.size → A q → bs ≤ q) : zT bs U H1 := h.kept (fun q h1 h2 => hk q h1 (fun z => absurd (hA q h1 z) (Nat.not_le.mpr h2)))
theorem cY_rd0 {D : va_G} {cI : ClassId} {ad : Nat → Nat} {tl : Int} {tx rd rp : Int → Int} {H H1 : Heap} (v : Int) (hJ : zJ ad 127) (h : cY D cI ad tl tx rd rp H) (hk : ∀ q : Nat, q < H.size → q ≠ ad 123 → H1[q]? = H[q]?) (hO : va_at D vwCl (ad 123, .inr (3, [.int (zI v), .int (zI (rd 1)), .int (zI (rd 2)), .int (zI (rd 3)), .int (zI (rd 4)), .int (zI (rd 5)), .ref (ad 121), .ref (ad 124)])) H1) : cY D cI ad tl tx (zu rd 0 v) rp H1 := cY_rd (zu rd 0 v) hJ h hk (by rw [zu_s, zu_n (show (1 : Int) ≠ 0 by decide), zu_n (show (2 : Int) ≠ 0 by decide), zu_n (show (3 : Int) ≠ 0 by decide), zu_n (show (4 : Int) ≠ 0 by decide), zu_n (show (5 : Int) ≠ 0 by decide)]; exact hO)
theorem cY_rd1 {D : va_G} {cI : ClassId} {ad : Nat → Nat} {tl : Int} {tx rd rp : Int → Int} {H H1 : Heap} (v : Int) (hJ : zJ ad 127) (h : cY D cI ad tl tx rd rp H) (hk : ∀ q : Nat, q < H.size → q ≠ ad 123 → H1[q]? = H[q]?) (hO : va_at D vwCl (ad 123, .inr (3, [.int (zI (rd 0)), .int (zI v), .int (zI (rd 2)), .int (zI (rd 3)), .int (zI (rd 4)), .int (zI (rd 5)), .ref (ad 121), .ref (ad 124)])) H1) : cY D cI ad tl tx (zu rd 1 v) rp H1 := cY_rd (zu rd 1 v) hJ h hk (by rw [zu_s, zu_n (show (0 : Int) ≠ 1 by decide), zu_n (show (2 : Int) ≠ 1 by decide), zu_n (show (3 : Int) ≠ 1 by decide), zu_n (show (4 : Int) ≠ 1 by decide), zu_n (show (5 : Int) ≠ 1 by decide)]; exact hO)
theorem cY_rd2 {D : va_G} {cI : ClassId} {ad : Nat → Nat} {tl : Int} {tx rd rp : Int → Int} {H H1 : Heap} (v : Int) (hJ : zJ ad 127) (h : cY D cI ad tl tx rd rp H) (hk : ∀ q : Nat, q < H.size → q ≠ ad 123 → H1[q]? = H[q]?) (hO : va_at D vwCl (ad 123, .inr (3, [.int (zI (rd 0)), .int (zI (rd 1)), .int (zI v), .int (zI (rd 3)), .int (zI (rd 4)), .int (zI (rd 5)), .ref (ad 121), .ref (ad 124)])) H1) : cY D cI ad tl tx (zu rd 2 v) rp H1 := cY_rd (zu rd 2 v) hJ h hk (by rw [zu_s, zu_n (show (0 : Int) ≠ 2 by decide), zu_n (show (1 : Int) ≠ 2 by decide), zu_n (show (3 : Int) ≠ 2 by decide), zu_n (show (4 : Int) ≠ 2 by decide), zu_n (show (5 : Int) ≠ 2 by decide)]; exact hO)
theorem cY_rd3 {D : va_G} {cI : ClassId} {ad : Nat → Nat} {tl : Int} {tx rd rp : Int → Int} {H H1 : Heap} (v : Int) (hJ : zJ ad 127) (h : cY D cI ad tl tx rd rp H) (hk : ∀ q : Nat, q < H.size → q ≠ ad 123 → H1[q]? = H[q]?) (hO : va_at D vwCl (ad 123, .inr (3, [.int (zI (rd 0)), .int (zI (rd 1)), .int (zI (rd 2)), .int (zI v), .int (zI (rd 4)), .int (zI (rd 5)), .ref (ad 121), .ref (ad 124)])) H1) : cY D cI ad tl tx (zu rd 3 v) rp H1 := cY_rd (zu rd 3 v) hJ h hk (by rw [zu_s, zu_n (show (0 : Int) ≠ 3 by decide), zu_n (show (1 : Int) ≠ 3 by decide), zu_n (show (2 : Int) ≠ 3 by decide), zu_n (show (4 : Int) ≠ 3 by decide), zu_n (show (5 : Int) ≠ 3 by decide)]; exact hO)
theorem cY_rd4 {D : va_G} {cI : ClassId} {ad : Nat → Nat} {tl : Int} {tx rd rp : Int → Int} {H H1 : Heap} (v : Int) (hJ : zJ ad 127) (h : cY D cI ad tl tx rd rp H) (hk : ∀ q : Nat, q < H.size → q ≠ ad 123 → H1[q]? = H[q]?) (hO : va_at D vwCl (ad 123, .inr (3, [.int (zI (rd 0)), .int (zI (rd 1)), .int (zI (rd 2)), .int (zI (rd 3)), .int (zI v), .int (zI (rd 5)), .ref (ad 121), .ref (ad 124)])) H1) : cY D cI ad tl tx (zu rd 4 v) rp H1 := cY_rd (zu rd 4 v) hJ h hk (by rw [zu_s, zu_n (show (0 : Int) ≠ 4 by decide), zu_n (show (1 : Int) ≠ 4 by decide), zu_n (show (2 : Int) ≠ 4 by decide), zu_n (show (3 : Int) ≠ 4 by decide), zu_n (show (5 : Int) ≠ 4 by decide)]; exact hO)
theorem cY_rd5 {D : va_G} {cI : ClassId} {ad : Nat → Nat} {tl : Int} {tx rd rp : Int → Int} {H H1 : Heap} (v : Int) (hJ : zJ ad 127) (h : cY D cI ad tl tx rd rp H) (hk : ∀ q : Nat, q < H.size → q ≠ ad 123 → H1[q]? = H[q]?) (hO : va_at D vwCl (ad 123, .inr (3, [.int (zI (rd 0)), .int (zI (rd 1)), .int (zI (rd 2)), .int (zI (rd 3)), .int (zI (rd 4)), .int (zI v), .ref (ad 121), .ref (ad 124)])) H1) : cY D cI ad tl tx (zu rd 5 v) rp H1 := cY_rd (zu rd 5 v) hJ h hk (by rw [zu_s, zu_n (show (0 : Int) ≠ 5 by decide), zu_n (show (1 : Int) ≠ 5 by decide), zu_n (show (2 : Int) ≠ 5 by decide), zu_n (show (3 : Int) ≠ 5 by decide), zu_n (show (4 : Int) ≠ 5 by decide)]; exact hO)
