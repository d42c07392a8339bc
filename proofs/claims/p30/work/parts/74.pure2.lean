/-! sets of bits; what the law's checks say of a state -/
theorem pw_mul {k n : Nat} (h : k < n) : ∃ e : Int, pw (n : Int) = 2 * e * pw (k : Int) := by
  induction n with
  | zero => omega
  | succ n ih =>
    by_cases e : k = n
    · subst e
      exact ⟨1, by rw [pw_s]; omega⟩
    · obtain ⟨x, hx⟩ := ih (by omega)
      refine ⟨2 * x, ?_⟩
      rw [pw_s, hx, ← Int.mul_assoc, ← Int.mul_assoc]
def sbt (P : Int → Prop) (n : Nat) (k : Int) : Prop := k < (n : Int) ∧ P k
theorem bit_sb (P : Int → Prop) (n : Nat) (k : Nat) : bit (sm (fun x => ti (P x) * pw x) n) (k : Int) ↔ ((k : Int) < (n : Int) ∧ P (k : Int)) := by
  induction n with
  | zero =>
    rw [sm_0]
    unfold bit
    rw [Int.zero_ediv]
    exact ⟨fun h => absurd h (by decide), fun h => absurd h.1 (by omega)⟩
  | succ n ih =>
    have hb := sbits_bd P n
    have hpk := pw_pos (k : Int)
    have hpn := pw_pos (n : Int)
    rw [sm_s]
    by_cases e : k = n
    · subst e
      unfold bit
      rw [Int.add_mul_ediv_right _ _ (by omega), Int.ediv_eq_zero_of_lt hb.1 hb.2]
      rcases Classical.em (P (k : Int)) with q | q
      · rw [ti_t q]
        exact ⟨fun _ => ⟨by omega, q⟩, fun _ => by decide⟩
      · rw [ti_f q]
        exact ⟨fun h => absurd h (by decide), fun h => absurd h.2 q⟩
    · rcases Nat.lt_or_ge k n with z | z
      · obtain ⟨x, hx⟩ := pw_mul z
        have h1 : bit (sm (fun x => ti (P x) * pw x) n + ti (P (n : Int)) * pw (n : Int)) (k : Int) ↔ bit (sm (fun x => ti (P x) * pw x) n) (k : Int) := by
          unfold bit
          rcases Classical.em (P (n : Int)) with q | q
          · rw [ti_t q, Int.one_mul, hx, Int.add_mul_ediv_right _ _ (by omega)]
            omega
          · rw [ti_f q, Int.zero_mul, Int.add_zero]
        exact h1.trans (ih.trans ⟨fun h => ⟨by omega, h.2⟩, fun h => ⟨by omega, h.2⟩⟩)
      · have hb2 := sbits_bd P (n + 1)
        rw [sm_s] at hb2
        have hle := pw_le (i := n + 1) (k := k) (by omega)
        unfold bit
        rw [Int.ediv_eq_zero_of_lt hb2.1 (by omega)]
        exact ⟨fun h => absurd h (by decide), fun h => absurd h.1 (by omega)⟩
theorem bit_nat {x : Int} (h0 : 0 ≤ x) (k : Nat) : Nat.testBit x.toNat k = true ↔ bit x (k : Int) := by
  have hx : x / pw (k : Int) = ((x.toNat / 2 ^ k : Nat) : Int) := by
    rw [pw_nat, Int.natCast_ediv]
    congr 1
    omega
  rw [Nat.testBit_eq_decide_div_mod_eq, decide_eq_true_iff]
  unfold bit
  rw [hx]
  omega
theorem or_sb (P : Int → Prop) (n : Nat) (hn : n ≤ 16) {c : Int} (c0 : 0 ≤ c) (c1 : c < (n : Int)) : zI (sm (fun x => ti (P x) * pw x) n) ||| zI (pw c) = zI (sm (fun x => ti (P x ∨ x = c) * pw x) n) := by
  have h1 := sbits_bd P n
  have h2 := sbits_bd (fun x => P x ∨ x = c) n
  have hp := pw_le (i := n) (k := 16) hn
  have e16 : pw ((16 : Nat) : Int) = 65536 := by decide
  have hc : c = ((c.toNat : Nat) : Int) := by omega
  have hpc : pw c = ((2 ^ c.toNat : Nat) : Int) := by
    have h := pw_nat c.toNat
    rw [← hc] at h
    exact h
  have key : (sm (fun x => ti (P x) * pw x) n).toNat ||| 2 ^ c.toNat = (sm (fun x => ti (P x ∨ x = c) * pw x) n).toNat := by
    apply Nat.eq_of_testBit_eq
    intro i
    rw [Nat.testBit_or, Nat.testBit_two_pow]
    have b1 := (bit_nat h1.1 i).trans (bit_sb P n i)
    have b2 := (bit_nat h2.1 i).trans (bit_sb (fun x => P x ∨ x = c) n i)
    rcases Classical.em (Nat.testBit (sm (fun x => ti (P x ∨ x = c) * pw x) n).toNat i = true) with q | q
    · rw [q]
      obtain ⟨r1, r2⟩ := b2.mp q
      rcases r2 with r2 | r2
      · rw [b1.mpr ⟨r1, r2⟩]
        rfl
      · rw [show decide (c.toNat = i) = true from decide_eq_true (by omega), Bool.or_true]
    · rw [Bool.eq_false_iff.mpr q]
      have q2 : ¬ Nat.testBit (sm (fun x => ti (P x) * pw x) n).toNat i = true := fun z => q (b2.mpr ⟨(b1.mp z).1, Or.inl (b1.mp z).2⟩)
      have q3 : ¬ c.toNat = i := fun z => q (b2.mpr ⟨by omega, Or.inr (by omega)⟩)
      rw [Bool.eq_false_iff.mpr q2, decide_eq_false q3]
      rfl
  have e1 : sm (fun x => ti (P x) * pw x) n = (((sm (fun x => ti (P x) * pw x) n).toNat : Nat) : Int) := by omega
  have e2 : sm (fun x => ti (P x ∨ x = c) * pw x) n = (((sm (fun x => ti (P x ∨ x = c) * pw x) n).toNat : Nat) : Int) := by omega
  rw [e1, e2, ← key, hpc, zi_nat, zi_nat, zi_nat]
  first | exact (Int32.ofNat_or _ _).symm | (apply Int32.toBitVec_inj.mp; simp)
/-- costumes away today, out of the first j hires -/
def awU (g : Int → Int) (j : Int) (c : Int) : Prop := ∃ h : Int, 0 ≤ h ∧ h < j ∧ gH g h 0 = c ∧ gH g h 1 ≤ g 3 ∧ g 3 ≤ gH g h 1 + gH g h 2 - 1
noncomputable def awS (g : Int → Int) (j : Int) : Int := sm (fun c => ti (awU g j c) * pw c) (g 0).toNat
theorem awS_0 (g : Int → Int) : awS g 0 = 0 := by
  unfold awS
  have h : sm (fun c => ti (awU g 0 c) * pw c) (g 0).toNat = sm (fun _ => 0) (g 0).toNat := sm_congr (fun k _ _ => by
    show ti (awU g 0 k) * pw k = 0
    rw [ti_f (fun q => by obtain ⟨h, h0, h1, _⟩ := q; omega), Int.zero_mul])
  rw [h]
  have h2 : ∀ n : Nat, sm (fun _ => 0) n = 0 := fun n => by
    induction n with
    | zero => rfl
    | succ n ih => rw [sm_s, ih]; rfl
  exact h2 _
theorem awS_bd {g : Int → Int} (hI : Inv g) (j : Int) : 0 ≤ awS g j ∧ awS g j ≤ 65535 := by
  have h := sbits_bd (awU g j) (g 0).toNat
  have hn := iv_nC hI
  have hp := pw_le (i := (g 0).toNat) (k := 16) (by omega)
  have e16 : pw ((16 : Nat) : Int) = 65536 := by decide
  unfold awS
  omega
theorem awS_n {g : Int → Int} {j : Int} (h : ¬ (gH g j 1 ≤ g 3 ∧ g 3 ≤ gH g j 1 + gH g j 2 - 1)) : awS g (j + 1) = awS g j := by
  unfold awS
  exact sm_congr (fun k _ _ => by
    show ti (awU g (j + 1) k) * pw k = ti (awU g j k) * pw k
    rw [ti_iff (P := awU g (j + 1) k) (Q := awU g j k) ⟨fun ⟨x, x0, x1, x2, x3, x4⟩ => by
      by_cases e : x = j
      · subst e
        exact absurd ⟨x3, x4⟩ h
      · exact ⟨x, x0, by omega, x2, x3, x4⟩, fun ⟨x, x0, x1, x2⟩ => ⟨x, x0, by omega, x2⟩⟩])
theorem awS_y {g : Int → Int} (hI : Inv g) {j : Int} (j0 : 0 ≤ j) (j1 : j < g 2) (h1 : gH g j 1 ≤ g 3) (h2 : g 3 ≤ gH g j 1 + gH g j 2 - 1) : zI (awS g j) ||| zI (pw (gH g j 0)) = zI (awS g (j + 1)) := by
  have hn := iv_nC hI
  have hh := iv_hi hI j0 j1
  unfold awS
  rw [or_sb (awU g j) (g 0).toNat (by omega) hh.1.1 (by omega)]
  congr 1
  exact sm_congr (fun k _ _ => by
    show ti (awU g j k ∨ k = gH g j 0) * pw k = ti (awU g (j + 1) k) * pw k
    rw [ti_iff (P := awU g j k ∨ k = gH g j 0) (Q := awU g (j + 1) k) ⟨fun q => by
      rcases q with ⟨x, x0, x1, x2⟩ | q
      · exact ⟨x, x0, by omega, x2⟩
      · exact ⟨j, j0, by omega, q.symm, h1, h2⟩, fun ⟨x, x0, x1, x2, x3, x4⟩ => by
      by_cases e : x = j
      · subst e
        exact Or.inr x2.symm
      · exact Or.inl ⟨x, x0, by omega, x2, x3, x4⟩⟩])
theorem awS_e (g : Int → Int) {j : Int} (hj : j = g 2) : awS g j = aset g (g 0).toNat := by
  subst hj
  unfold awS aset
  exact sm_congr (fun k _ _ => by
    show ti (awU g (g 2) k) * pw k = ti (awy g k (g 3) 1) * pw k
    rw [ti_iff (P := awU g (g 2) k) (Q := awy g k (g 3) 1) ⟨fun ⟨x, x0, x1, x2, x3, x4⟩ => ⟨x, x0, x1, x2, by omega, by omega⟩, fun ⟨x, x0, x1, x2, x3, x4⟩ => ⟨x, x0, x1, x2, by omega, by omega⟩⟩])
theorem zi_or0 (x : Int) : zI x ||| zI 0 = zI x := by
  show zI x ||| 0 = _
  exact Int32.or_zero
theorem aset_b7 {g : Int → Int} (hI : Inv g) : 0 ≤ aset g (g 0).toNat ∧ aset g (g 0).toNat ≤ 65535 := by
  rw [← awS_e g rfl]
  exact awS_bd hI _
theorem dset_b7 {g : Int → Int} (hI : Inv g) (p q : Int) : 0 ≤ dset g p q (g 0).toNat ∧ dset g p q (g 0).toNat ≤ 65535 := by
  have h := sbits_bd (dty g p q) (g 0).toNat
  have hn := iv_nC hI
  have hp := pw_le (i := (g 0).toNat) (k := 16) (by omega)
  have e16 : pw ((16 : Nat) : Int) = 65536 := by decide
  unfold dset
  omega
theorem aset_bit {g : Int → Int} {k : Int} (k0 : 0 ≤ k) (k1 : k < g 0) : bit (aset g (g 0).toNat) k ↔ awy g k (g 3) 1 := by
  have h := bit_sb (fun k => awy g k (g 3) 1) (g 0).toNat k.toNat
  rw [show ((k.toNat : Nat) : Int) = k by omega] at h
  exact h.trans ⟨fun q => q.2, fun q => ⟨by omega, q⟩⟩
theorem dset_bit {g : Int → Int} {p q k : Int} (k0 : 0 ≤ k) (k1 : k < g 0) : bit (dset g p q (g 0).toNat) k ↔ dty g p q k := by
  have h := bit_sb (dty g p q) (g 0).toNat k.toNat
  rw [show ((k.toNat : Nat) : Int) = k by omega] at h
  exact h.trans ⟨fun z => z.2, fun z => ⟨by omega, z⟩⟩
theorem bit_1 {x k : Int} : bit x k ↔ x / pw k % 2 = 1 := Iff.rfl
theorem bit_01 (x k : Int) : 0 ≤ x / pw k % 2 ∧ x / pw k % 2 ≤ 1 := by omega
theorem zabs_z {x : Int} (h : zabs x = 0) : x = 0 := by
  unfold zabs at h
  split at h <;> omega
theorem mis_3 (g : Int → Int) (c a : Int) : mis g c a = zabs (lack g c a 0) + zabs (lack g c a 1) + zabs (lack g c a 2) := by
  show 0 + zabs (lack g c a 0) + zabs (lack g c a 1) + zabs (lack g c a 2) = _
  omega
theorem need_3 (g : Int → Int) (c a : Int) : need g c a 3 = ti (lack g c a 0 ≠ 0) + ti (lack g c a 1 ≠ 0) + ti (lack g c a 2 ≠ 0) := by
  show 0 + ti (lack g c a 0 ≠ 0) + ti (lack g c a 1 ≠ 0) + ti (lack g c a 2 ≠ 0) = _
  omega
theorem mis_lst {g : Int → Int} (hI : Inv g) {c a : Int} (c0 : 0 ≤ c) (c1 : c < g 0) (h : mis g c a = 0) : lst g c a = 0 := by
  have h3 := mis_3 g c a
  have z0 := zabs_nn (lack g c a 0)
  have z1 := zabs_nn (lack g c a 1)
  have z2 := zabs_nn (lack g c a 2)
  have l0 := zabs_z (show zabs (lack g c a 0) = 0 by omega)
  have l1 := zabs_z (show zabs (lack g c a 1) = 0 by omega)
  have l2 := zabs_z (show zabs (lack g c a 2) = 0 by omega)
  have hna := iv_na hI c0 c1
  have hO : lOK g c a := by
    refine ⟨fun m m0 m1 hb => hb.1 ?_, ?_⟩
    · rcases (show m = 0 ∨ m = 1 ∨ m = 2 by omega) with e | e | e
      · rw [e]; exact l0
      · rw [e]; exact l1
      · rw [e]; exact l2
    · rw [need_3, ti_f (fun q => q l0), ti_f (fun q => q l1), ti_f (fun q => q l2)]
      omega
  unfold lst
  rw [tif_t hO, h]
theorem lst_mis {g : Int → Int} {c a : Int} (h : 0 ≤ lst g c a) : lst g c a = mis g c a := by
  unfold lst at h ⊢
  rcases Classical.em (lOK g c a) with q | q
  · rw [tif_t q]
  · rw [tif_f q] at h
    omega
theorem ffd_t {g : Int → Int} {k : Int} (h : ¬ awy g k (g 3) 1) : ffd g k 1 = g 3 := ffd_of ⟨Int.le_refl _, h, fun x x0 x1 => absurd x1 (by omega)⟩
theorem ffd_a {g : Int → Int} (hI : Inv g) {k : Int} (h : awy g k (g 3) 1) : ffd g k 1 ≠ g 3 := by
  have ht := iv_to hI
  have hP : ¬ awy g k (g 3 + ((400 : Nat) : Int)) 1 := fun ⟨x, x0, x1, x2, x3, x4⟩ => by
    have hh := iv_hi hI x0 x1
    omega
  obtain ⟨q, ⟨q0, q1, q2⟩, _⟩ := isL_ex (P := fun d => ¬ awy g k d 1) 400 (g 3) hP
  have e := ffd_of (g := g) (c := k) (n := 1) (d := q) ⟨q0, q1, fun x x0 x1 => Classical.byContradiction (q2 x x0 x1)⟩
  rw [e]
  intro z
  rw [z] at q1
  exact q1 h
theorem ffd_bd {g : Int → Int} (hI : Inv g) (k : Int) : 0 ≤ ffd g k 1 ∧ ffd g k 1 ≤ 700 := by
  have ht := iv_to hI
  have hP : ¬ awy g k (g 3 + ((400 : Nat) : Int)) 1 := fun ⟨x, x0, x1, x2, x3, x4⟩ => by
    have hh := iv_hi hI x0 x1
    omega
  obtain ⟨q, ⟨q0, q1, q2⟩, q3⟩ := isL_ex (P := fun d => ¬ awy g k d 1) 400 (g 3) hP
  have e := ffd_of (g := g) (c := k) (n := 1) (d := q) ⟨q0, q1, fun x x0 x1 => Classical.byContradiction (q2 x x0 x1)⟩
  rw [e]
  omega
theorem bst_is (g : Int → Int) (sc a : Int) (n : Nat) : bst g sc a n = -2009 ∨ (0 ≤ bst g sc a n ∧ bst g sc a n < (n : Int) ∧ fre g sc a (bst g sc a n) ∧ lst g (bst g sc a n) a ≠ -2009) := by
  induction n with
  | zero => exact Or.inl rfl
  | succ n ih =>
    rcases Classical.em (better g sc a (bst g sc a n) (n : Int)) with h | h
    · rw [bst_yes h]
      exact Or.inr ⟨by omega, by omega, h.1.1, h.1.2⟩
    · rw [bst_no h]
      rcases ih with ih | ih
      · exact Or.inl ih
      · exact Or.inr ⟨ih.1, by omega, ih.2.2⟩
theorem qFor_is {g : Int → Int} (hI : Inv g) (sc a : Int) : (-2009 ≤ qFor g sc a ∧ qFor g sc a < 0) ∨ ((0 ≤ qFor g sc a ∧ qFor g sc a < g 0) ∧ (0 ≤ a ∧ a < g 1) ∧ 0 ≤ lst g (qFor g sc a) a ∧ gC g (qFor g sc a) 6 < gS g 3 ∧ ¬ awy g (qFor g sc a) (g 3) 1) := by
  have hn := iv_nC hI
  rcases Classical.em ((0 ≤ sc ∧ sc < 12) ∧ 0 ≤ a ∧ a < g 1) with q | q
  · have e : qFor g sc a = bst g sc a (g 0).toNat := tif_t q _ _
    rw [e]
    rcases bst_is g sc a (g 0).toNat with h | ⟨h0, h1, h2, h3⟩
    · left; omega
    · have hb := lst_bd hI (c := bst g sc a (g 0).toNat) (a := a) h0 (by omega) q.2.1 q.2.2
      right
      exact ⟨⟨h0, by omega⟩, q.2, by omega, h2.2.2, h2.2.1⟩
  · have e : qFor g sc a = -2001 := tif_f q _ _
    left; omega
/-! the text that is empty -/
theorem tK_00 (tx : Int → Int) : tK tx 0 0 = 0 := by
  have h := (tS_is (tx := tx) (tl := 0) (p := 0) (Int.le_refl _)).1
  exact kd_0 h.1
theorem oD_0 {tx : Int → Int} {g : Int → Int} {n : Nat} {hs : Nat → Int → Int} {g' : Int → Int} {n' : Nat} {hs' : Nat → Int → Int} {tl' : Int} {r : Int32} (h : oD tx 0 g n hs g' n' hs' tl' r) : r = zI 0 ∧ g' = g ∧ n' = hpN n ∧ hs' = hpS n hs g ∧ tl' = 0 := by
  rcases h with ⟨k, a, b, c, d, e, f⟩ | ⟨e, ⟨k, a, b, c⟩, _⟩
  · have k0 : k = 0 := by
      rcases Nat.eq_zero_or_pos k with z | z
      · exact z
      · exact absurd (tK_00 tx) (a.1 0 z).1
    subst k0
    exact ⟨b, c, d, e, f⟩
  · have k0 : k = 0 := by
      rcases Nat.eq_zero_or_pos k with z | z
      · exact z
      · exact absurd (tK_00 tx) (a 0 z).1
    subst k0
    exact absurd (tK_00 tx) b
