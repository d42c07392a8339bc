/-! the law's two sides: what holds between two calls -/
def LG (ad am : Nat → Nat) (bs : Nat) : Prop := zJ ad 127 ∧ zJ am 5 ∧ (∀ i j : Nat, i < 127 → j < 5 → ad i ≠ am j) ∧ (∀ k : Nat, k < 127 → bs ≤ ad k) ∧ (∀ k : Nat, k < 5 → bs ≤ am k)
def cW (D : va_G) (cI cT : ClassId) (ad : Nat → Nat) (σ : Nat → Int → Int) (σs : Nat → Nat → Int → Int) (n m : Nat) (tl : Int) (tx rd rp : Int → Int) (H : Heap) : Prop :=
  zW D ad 20 (sC cI ad σ) H ∧ hO1 D ad (n : Int) (m : Int) H ∧ hO2 D cT ad H ∧ hQs D cI ad σs H ∧ cY D cI ad tl tx rd rp H
def gOK (g : Int → Int) (n : Nat) (hs : Nat → Int → Int) (tl : Int) (tx : Int → Int) : Prop := Inv g ∧ (∀ j : Nat, j < n → Inv (hs j)) ∧ 0 ≤ tl ∧ tl ≤ 120 ∧ ∀ i : Int, 0 ≤ i → i < tl → 1 ≤ tx i ∧ tx i ≤ 255
def LC (D : va_G) (cI cT : ClassId) (ad : Nat → Nat) (g : Int → Int) (n : Nat) (hs : Nat → Int → Int) (tl : Int) (tx : Int → Int) (H : Heap) : Prop :=
  ∃ (σ : Nat → Int → Int) (σs : Nat → Nat → Int → Int) (m : Nat) (rd rp : Int → Int), Rel σ g ∧ cH σs n m hs ∧ n ≤ 5 ∧ m < 5 ∧ cW D cI cT ad σ σs n m tl tx rd rp H
def LM (D : va_G) (cI : ClassId) (am : Nat → Nat) (g : Int → Int) (n : Nat) (hs : Nat → Int → Int) (tl : Int) (tx : Int → Int) (H : Heap) : Prop := ∃ μ : Nat → Int → Int, mR μ g n hs tl tx ∧ zW D am 5 (mC cI am μ) H
def LX (bs : Nat) (s : State) (H : Heap) : Prop := zT bs s H ∧ zSt bs s H
def LI (D : va_G) (cI cT : ClassId) (ad am : Nat → Nat) (bs : Nat) (s : State) (H : Heap) : Prop := ∃ (g : Int → Int) (n : Nat) (hs : Nat → Int → Int) (tl : Int) (tx : Int → Int), gOK g n hs tl tx ∧ LC D cI cT ad g n hs tl tx H ∧ LM D cI am g n hs tl tx H ∧ LX bs s H
section LKP
variable {D : va_G} {cI cT : ClassId} {ad am : Nat → Nat} {bs : Nat} {s : State} {H H1 : Heap}
theorem cW_keep {σ : Nat → Int → Int} {σs : Nat → Nat → Int → Int} {n m : Nat} {tl : Int} {tx rd rp : Int → Int} (h : cW D cI cT ad σ σs n m tl tx rd rp H) (hG : LG ad am bs) (hk : ∀ q : Nat, q < H.size → ¬ zR am 5 H.size q → H1[q]? = H[q]?) : cW D cI cT ad σ σs n m tl tx rd rp H1 := by
  obtain ⟨hP, hH1, hH2, hQ, hY⟩ := h
  have nz : ∀ k : Nat, k < 127 → ad k < H.size → ¬ zR am 5 H.size (ad k) := fun k hk0 hl z => z.elim (fun ⟨i, i0, e⟩ => hG.2.2.1 k i hk0 i0 e) (fun y => absurd hl (Nat.not_lt.mpr y))
  refine ⟨hP.keep hk (fun k k0 => nz k (by omega) (hP.lt k0)), hH1.kept (hk _ hH1.lt (nz 125 (by decide) hH1.lt)), hH2.kept (hk _ hH2.lt (nz 126 (by decide) hH2.lt)), fun j hj => (hQ j hj).keep hk (fun k k0 => nz (20 * (j + 1) + k) (by omega) ((hQ j hj).lt k0)), hY.keep hk (fun k k0 k1 hl => nz k (by omega) hl)⟩
theorem mW_keep {X : Nat → va_E} (h : zW D am 5 X H) (hG : LG ad am bs) (hk : ∀ q : Nat, q < H.size → ¬ zR ad 127 H.size q → H1[q]? = H[q]?) : zW D am 5 X H1 :=
  h.keep hk (fun k k0 z => z.elim (fun ⟨i, i0, e⟩ => hG.2.2.1 i k i0 k0 e.symm) (fun y => absurd (h.lt k0) (Nat.not_lt.mpr y)))
theorem LX_k7 (h : LX bs s H) (hG : LG ad am bs) (hk : ∀ q : Nat, q < H.size → ¬ zR ad 127 H.size q → H1[q]? = H[q]?) : LX bs s H1 := by
  have nz : ∀ q : Nat, q < H.size → q < bs → ¬ zR ad 127 H.size q := fun q h1 h2 z => z.elim (fun ⟨i, i0, e⟩ => absurd (hG.2.2.2.1 i i0) (by omega)) (fun y => absurd h1 (Nat.not_lt.mpr y))
  exact ⟨h.1.kept (fun q h1 h2 => hk q h1 (nz q h1 h2)), h.2.kept (fun q h1 h2 => hk q h1 (nz q h1 (Nat.not_le.mp h2)))⟩
theorem LX_k8 (h : LX bs s H) (hG : LG ad am bs) (hk : ∀ q : Nat, q < H.size → ¬ zR am 5 H.size q → H1[q]? = H[q]?) : LX bs s H1 := by
  have nz : ∀ q : Nat, q < H.size → q < bs → ¬ zR am 5 H.size q := fun q h1 h2 z => z.elim (fun ⟨i, i0, e⟩ => absurd (hG.2.2.2.2 i i0) (by omega)) (fun y => absurd h1 (Nat.not_lt.mpr y))
  exact ⟨h.1.kept (fun q h1 h2 => hk q h1 (nz q h1 h2)), h.2.kept (fun q h1 h2 => hk q h1 (nz q h1 (Nat.not_le.mp h2)))⟩
end LKP
/-! what the calls keep -/
theorem tif_0 {P : Prop} {a b : Int} (h : tif P a b = 0) (hb : b ≠ 0) : P ∧ a = 0 := by
  rcases Classical.em P with p | p
  · rw [tif_t p] at h; exact ⟨p, h⟩
  · rw [tif_f p] at h; exact absurd h hb
theorem gOK_act {E A : Int} {G g : Int → Int} {n : Nat} {hs : Nat → Int → Int} {tl : Int} {tx : Int → Int} {g' : Int → Int} {n' : Nat} {hs' : Nat → Int → Int} {r : Int32} (h : oR E A G g n hs g' n' hs' r) (hG : gOK g n hs tl tx) (hE : E = 0 → Inv G) : gOK g' n' hs' tl tx := by
  obtain ⟨hI, hh, ht⟩ := hG
  rcases h with ⟨a, b, c, d, e⟩ | ⟨a, b, c, d, e⟩
  · rw [c, d, e]; exact ⟨hI, hh, ht⟩
  · rw [c, d, e]
    refine ⟨hE a, fun j hj => ?_, ht⟩
    unfold hpN at hj
    unfold hpS
    by_cases z : n < 5
    · rw [if_pos z] at hj
      simp only [if_pos z]
      by_cases y : j = n
      · rw [if_pos y]; exact hI
      · rw [if_neg y]; exact hh j (by omega)
    · rw [if_neg z] at hj
      simp only [if_neg z]
      by_cases y : j = 4
      · rw [if_pos y]; exact hI
      · rw [if_neg y]; exact hh (j + 1) (by omega)
section OKS
variable {g : Int → Int}
theorem ok_addC {a b c d e : Int} (hI : Inv g) (h : eAddC g a b c d e = 0) : Inv (mkC g a b c d e 0) := by
  obtain ⟨p, h2⟩ := tif_0 h (by decide)
  obtain ⟨q, _⟩ := tif_0 h2 (by decide)
  exact inv_mkC hI q p.1 p.2.1 p.2.2.1 p.2.2.2.1 p.2.2.2.2 (by decide)
theorem ok_addA {a b c : Int} (hI : Inv g) (h : eAddA g a b c = 0) : Inv (mkA g a b c) := by
  obtain ⟨p, h2⟩ := tif_0 h (by decide)
  obtain ⟨q, _⟩ := tif_0 h2 (by decide)
  exact inv_mkA hI q p.1 p.2.1 p.2.2
theorem ok_col {c v : Int} (hI : Inv g) (h : eCol g c v = 0) : Inv (zu g (12 + 20 * c + 5) v) := by
  obtain ⟨p, _⟩ := tif_0 h (by decide)
  exact inv_cl p.1.1 p.1.2 p.2 hI
theorem ok_set {i v : Int} (hI : Inv g) (h : eSet i v = 0) : Inv (zu g (8 + i) v) := by
  obtain ⟨p, _⟩ := tif_0 h (by decide)
  exact inv_se (by omega) (by omega) (by omega) hI
theorem ok_pass {d : Int} (hI : Inv g) (h : ePass g d = 0) : Inv (zu g 3 (g 3 + d)) := by
  obtain ⟨p, h2⟩ := tif_0 h (by decide)
  obtain ⟨q, _⟩ := tif_0 h2 (by decide)
  have := iv_to hI
  exact inv_to (by omega) hI
theorem ok_wear {sc a c : Int} (hI : Inv g) (h : eWear g sc a c = 0) : Inv (zu g (356 + 8 * sc + a) c) := by
  obtain ⟨p, _⟩ := tif_0 h (by decide)
  exact inv_wo p.1.1 p.1.2 p.2.1.1 p.2.1.2 p.2.2 hI
theorem ok_alt {c m d v : Int} (hI : Inv g) (h : eAlt g c m d = 0) : Inv (zu (altG g c m d) 4 v) := by
  obtain ⟨p, h2⟩ := tif_0 h (by decide)
  obtain ⟨q, h3⟩ := tif_0 h2 (by decide)
  obtain ⟨r, _⟩ := tif_0 h3 (by decide)
  exact inv_4 (inv_alt hI p.1.1 p.1.2 r p.2.1 p.2.2.1)
theorem ok_unp {c v : Int} (hI : Inv g) (h : eUnp g c = 0) : Inv (zu (zu g (12 + 20 * c + 7) (gC g c 7 - 1)) 4 v) := by
  obtain ⟨p, h2⟩ := tif_0 h (by decide)
  obtain ⟨q, _⟩ := tif_0 h2 (by decide)
  have hna := iv_na hI p.1 p.2
  have q2 := q.2
  exact inv_4 (inv_cnt p.1 p.2 (by omega) (Or.inl (by omega)) hI)
theorem ok_hire {c f d r v : Int} (hI : Inv g) (h : eHire g c f d r = 0) : Inv (zu (mkH g c f d (feeF d r) r) 5 v) := by
  obtain ⟨p, h2⟩ := tif_0 h (by decide)
  obtain ⟨q, h3⟩ := tif_0 h2 (by decide)
  obtain ⟨w, _⟩ := tif_0 h3 (by decide)
  have hto := iv_to hI
  have hf := feeF_bd (n := d) (r := r) (by omega) (by omega) (by omega) (by omega)
  exact inv_5 (inv_mkH hI w p.1 (by omega) p.2.2.1 (by omega) p.2.2.2)
theorem bkF_bd {h : Int} (hI : Inv g) (h0 : 0 ≤ h) (h1 : h < g 2) (t0 : gH g h 1 ≤ g 3) (t1 : g 3 + 1 < gH g h 1 + gH g h 2) : 0 ≤ gH g h 3 - bkF g h ∧ gH g h 3 - bkF g h ≤ 3000 := by
  have hh := iv_hi hI h0 h1
  have hfb := feeF_bd (n := g 3 - gH g h 1 + 1) (r := gH g h 4) (by omega) (by omega) (by omega) (by omega)
  unfold bkF
  rcases Int.le_total 0 (gH g h 3 - feeF (g 3 - gH g h 1 + 1) (gH g h 4)) with z | z
  · rw [Int.tdiv_eq_ediv_of_nonneg z]
    omega
  · have e := Int.neg_tdiv (gH g h 3 - feeF (g 3 - gH g h 1 + 1) (gH g h 4)) 2
    rw [Int.tdiv_eq_ediv_of_nonneg (by omega)] at e
    omega
theorem ok_end {h v : Int} (hI : Inv g) (hE : eEnd g h = 0) : Inv (zu (zu (zu g (452 + 5 * h + 2) (g 3 - gH g h 1 + 1)) (452 + 5 * h + 3) (gH g h 3 - bkF g h)) 5 v) := by
  obtain ⟨p, h2⟩ := tif_0 hE (by decide)
  obtain ⟨q, _⟩ := tif_0 h2 (by decide)
  have hh := iv_hi hI p.1 p.2
  exact inv_5 (inv_h3 p.1 (by rw [zu_n (by omega)]; exact p.2) (bkF_bd hI p.1 p.2 q.1 q.2) (inv_h2 p.1 p.2 (by omega) hI))
theorem ok_perf (hI : Inv g) (h : ePerf g = 0) : Inv (zu (zu (soG g (g 0).toNat) 7 (g 7 + 1)) 3 (g 3 + 1)) := by
  obtain ⟨p, h2⟩ := tif_0 h (by decide)
  obtain ⟨q, _⟩ := tif_0 h2 (by decide)
  have hto := iv_to hI
  have hn := iv_nC hI
  exact inv_to (by omega) (inv_7 (inv_so hI _ (by omega)).1)
theorem ok_wash {p ld v : Int} (hI : Inv g) (h : eWash g p ld = 0) : Inv (zu (clnG g ld (tbD p) (g 0).toNat) 6 v) := by
  have hn := iv_nC hI
  have := tbD_9 p
  exact inv_6 (inv_cln hI (ld := ld) (st := tbD p) (by omega) _ (by omega)).1
end OKS
theorem oU_u {g : Int → Int} {n : Nat} {hs : Nat → Int → Int} {g1 g2 : Int → Int} {n1 n2 : Nat} {hs1 hs2 : Nat → Int → Int} {r1 r2 : Int32} (h1 : oU g n hs g1 n1 hs1 r1) (h2 : oU g n hs g2 n2 hs2 r2) : r1 = r2 ∧ g1 = g2 ∧ n1 = n2 ∧ hs1 = hs2 := by
  rcases h1 with ⟨e1, a1, b1, c1, d1⟩ | ⟨e1, a1, b1, c1, d1⟩ <;> rcases h2 with ⟨e2, a2, b2, c2, d2⟩ | ⟨e2, a2, b2, c2, d2⟩
  · exact ⟨a1.trans a2.symm, b1.trans b2.symm, c1.trans c2.symm, d1.trans d2.symm⟩
  · omega
  · omega
  · exact ⟨a1.trans a2.symm, b1.trans b2.symm, c1.trans c2.symm, d1.trans d2.symm⟩
theorem gOK_undo {g : Int → Int} {n : Nat} {hs : Nat → Int → Int} {tl : Int} {tx : Int → Int} {g' : Int → Int} {n' : Nat} {hs' : Nat → Int → Int} {r : Int32} (h : oU g n hs g' n' hs' r) (hG : gOK g n hs tl tx) : gOK g' n' hs' tl tx := by
  obtain ⟨hI, hh, ht⟩ := hG
  rcases h with ⟨a, b, c, d, e⟩ | ⟨a, b, c, d, e⟩
  · rw [c, d, e]; exact ⟨hI, hh, ht⟩
  · rw [c, d, e]
    exact ⟨inv_congr (hh (n - 1) (by omega)) (fun x x0 x1 => cpy_in g (hs (n - 1)) x x0 x1), fun j hj => hh j (by omega), ht⟩
theorem oT_u {tl : Int} {tx : Int → Int} {c t1 t2 : Int} {x1 x2 : Int → Int} {r1 r2 : Int32} (h1 : oT tl tx c t1 x1 r1) (h2 : oT tl tx c t2 x2 r2) : r1 = r2 ∧ t1 = t2 ∧ x1 = x2 := by
  rcases h1 with ⟨e1, a1, b1, c1⟩ | ⟨e1, a1, b1, c1⟩ <;> rcases h2 with ⟨e2, a2, b2, c2⟩ | ⟨e2, a2, b2, c2⟩
  · exact ⟨a1.trans a2.symm, b1.trans b2.symm, c1.trans c2.symm⟩
  · exact absurd e2 e1
  · exact absurd e1 e2
  · exact ⟨a1.trans a2.symm, b1.trans b2.symm, c1.trans c2.symm⟩
theorem gOK_app {g : Int → Int} {n : Nat} {hs : Nat → Int → Int} {tl c tl' : Int} {tx tx' : Int → Int} {r : Int32} (h : oT tl tx c tl' tx' r) (hG : gOK g n hs tl tx) : gOK g n hs tl' tx' := by
  obtain ⟨hI, hh, h0, h1, ht⟩ := hG
  rcases h with ⟨a, b, d, e⟩ | ⟨a, b, d, e⟩
  · rw [d, e]; exact ⟨hI, hh, h0, h1, ht⟩
  · obtain ⟨p, h2⟩ := tif_0 a (by decide)
    obtain ⟨q, _⟩ := tif_0 h2 (by decide)
    rw [d, e]
    refine ⟨hI, hh, by omega, by omega, fun i i0 i1 => ?_⟩
    unfold zu
    by_cases z : i = tl
    · rw [if_pos z]; exact p
    · rw [if_neg z]; exact ht i i0 (by omega)
theorem gOK_clear {g : Int → Int} {n : Nat} {hs : Nat → Int → Int} {tl : Int} {tx : Int → Int} (hG : gOK g n hs tl tx) : gOK g n hs 0 tx := ⟨hG.1, hG.2.1, Int.le_refl _, by decide, fun i i0 i1 => absurd i1 (by omega)⟩
theorem gOK_load {g : Int → Int} {n : Nat} {hs : Nat → Int → Int} {tl : Int} {tx : Int → Int} {g' : Int → Int} {n' : Nat} {hs' : Nat → Int → Int} {tl' : Int} {r : Int32} (h : oD tx tl g n hs g' n' hs' tl' r) (hG : gOK g n hs tl tx) : gOK g' n' hs' tl' tx := by
  rcases h with ⟨k, a, b, c, d, e, f⟩ | ⟨k, a, b, c, d, e, f⟩
  · have h2 : oR 0 0 g' g n hs g' n' hs' (zI 0) := Or.inr ⟨rfl, rfl, rfl, d, e⟩
    rw [f]
    exact gOK_clear (gOK_act h2 hG (fun _ => by rw [c]; exact (sq_inv hG.1 a.1).1))
  · rw [c, d, e, f]; exact hG
/-! the script -/
def xv (xs : Nat → Int32) (j : Int) : Int := (xs j.toNat).toInt
theorem xv_r (xs : Nat → Int32) (j : Int) : -2147483648 ≤ xv xs j ∧ xv xs j ≤ 2147483647 := ⟨by have := Int32.le_toInt (xs j.toNat); unfold xv; omega, by have := Int32.toInt_lt (xs j.toNat); unfold xv; omega⟩
theorem xv_z (xs : Nat → Int32) (j : Int) : zI (xv xs j) = xs j.toNat := Int32.ofInt_toInt _
section ZSL
variable {p : Program} {l : Launch} {e : Env} {R : Room} {s : State} {m : MethodId} {args : Array Value} {below : List Frame} {meth : Method} {c : Code} {H : Heap} {locs : List Loc} {cells slots : Nat} {Q : State → Prop}
variable {cc : ByteArray} {pc : Nat} {ls : Array Slot} {rest : List Value} {A0 : Nat → Prop} {H0 : Heap}
theorem zr_sld (hx : p.tables.exec = Jvm.exec) (hb : c.code = cc) {b L : Nat} {xs : Nat → Int32} (hX : va_X b L xs s H0) (hbl : b < H0.size) (hbA : ¬ A0 b) (hS : va_S A0 H0 H locs) {j : Int} (h0 : 0 ≤ j) (h1 : j < (L : Int)) (hL : (L : Int) ≤ 2147483647) (hdg : decode cc pc = .ok (.iaload, 1))
    (kk : W p l e R s m args below meth c H locs cells slots Q (F0 m (pc + 1) ls (.int (zI (xv xs j)) :: rest))) : W p l e R s m args below meth c H locs cells slots Q (F0 m pc ls (.int (zI j) :: .ref b :: rest)) := by
  have ec : (zI j).toNatClampNeg = j.toNat := by have := zi_clamp h0 (by omega); omega
  refine va_sld hx hb hX hbl hbA hS (zi_in h0 h1 hL) hdg ?_
  rw [ec, ← xv_z xs j]
  exact kk
theorem zr_slen (hx : p.tables.exec = Jvm.exec) (hb : c.code = cc) {b L : Nat} {xs : Nat → Int32} (hX : va_X b L xs s H0) (hbl : b < H0.size) (hbA : ¬ A0 b) (hS : va_S A0 H0 H locs) (hdg : decode cc pc = .ok (.arraylength, 1))
    (kk : W p l e R s m args below meth c H locs cells slots Q (F0 m (pc + 1) ls (.int (zI (L : Int)) :: rest))) : W p l e R s m args below meth c H locs cells slots Q (F0 m pc ls (.ref b :: rest)) := by
  refine va_slen hx hb hX hbl hbA hS hdg ?_
  rw [← zi_nat]
  exact kk
end ZSL
theorem zi_and31 (x : Int) : ∃ y : Int, 0 ≤ y ∧ y ≤ 31 ∧ zI x &&& zI 31 = zI y := by
  refine ⟨(zI x &&& zI 31).toInt, ?_⟩
  have e : (zI x &&& zI 31).toInt = (((zI x).toBitVec.toNat % 32 : Nat) : Int) := by
    rw [show (zI x &&& zI 31).toInt = ((zI x &&& zI 31).toBitVec).toInt from rfl, Int32.toBitVec_and]
    have h : (zI x).toBitVec &&& (zI 31).toBitVec = BitVec.ofNat 32 ((zI x).toBitVec.toNat % 32) := by
      apply BitVec.eq_of_toNat_eq
      rw [BitVec.toNat_and, show (zI 31).toBitVec.toNat = 2 ^ 5 - 1 by decide, Nat.and_two_pow_sub_one_eq_mod, BitVec.toNat_ofNat]
      omega
    have h3 : (zI x).toBitVec.toNat % 32 < 32 := Nat.mod_lt _ (by decide)
    have h4 : (BitVec.ofNat 32 ((zI x).toBitVec.toNat % 32)).toNat = (zI x).toBitVec.toNat % 32 := by
      rw [BitVec.toNat_ofNat]
      omega
    rw [h, BitVec.toInt_eq_toNat_of_lt (by omega), h4]
  have h3 : (zI x).toBitVec.toNat % 32 < 32 := Nat.mod_lt _ (by decide)
  exact ⟨by omega, by omega, (Int32.ofInt_toInt _).symm⟩
