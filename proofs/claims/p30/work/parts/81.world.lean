/-! the world at the law's entry, out of the tables and of what is given -/
theorem lw_zK {args : Array Value} {s : State} (hts : ∀ w ∈ lw_tbl, w.before args s = true) : ∃ (D : va_G) (cI cT : ClassId), zK D cI cT s := by
  obtain ⟨c0, i0, k0⟩ := u_known (C := RX0) (T := TX0) (N := 3) hts inX0 (hts (.instantiable RX0 3) (by decide +kernel))
  obtain ⟨c1, i1, k1⟩ := u_known (C := RX1) (T := TX1) (N := 6) hts inX1 (hts (.instantiable RX1 6) (by decide +kernel))
  obtain ⟨c2, i2, k2⟩ := u_known (C := RX2) (T := TX2) (N := 3) hts inX2 (hts (.instantiable RX2 3) (by decide +kernel))
  obtain ⟨c3, i3, k3⟩ := u_known (C := RX3) (T := TX3) (N := 8) hts inX3 (hts (.instantiable RX3 8) (by decide +kernel))
  obtain ⟨c4, i4, k4⟩ := u_known (C := RX4) (T := TX4) (N := 9) hts inX4 (hts (.instantiable RX4 9) (by decide +kernel))
  obtain ⟨c5, i5, k5⟩ := u_known (C := RX5) (T := TX5) (N := 2) hts inX5 (hts (.instantiable RX5 2) (by decide +kernel))
  obtain ⟨c6, i6, k6⟩ := u_known (C := RX6) (T := TX6) (N := 9) hts inX6 (hts (.instantiable RX6 9) (by decide +kernel))
  obtain ⟨c7, i7, k7⟩ := u_known (C := RX7) (T := TX7) (N := 4) hts inX7 (hts (.instantiable RX7 4) (by decide +kernel))
  obtain ⟨cI, kI, pI, a1, a2, a3⟩ := Cond.arrayClass_spec (hts (.arrayClass .int) (by decide +kernel))
  obtain ⟨pT, cT, kT, b1, b2, b3, b4, b5⟩ := Cond.arrayOver_spec (hts (.arrayOver (.object "CostumeStock$State")) (by decide +kernel))
  refine ⟨(fun k => [c0, c1, c2, c3, c4, c5, c6, c7].getD k 0, fun k => [i0, i1, i2, i3, i4, i5, i6, i7].getD k (fun _ => 0)), cI, cT, ⟨?_, ?_⟩, ?_, ?_⟩
  · intro c q hq
    match c, hq with
    | 0, hq =>
      have e : (RX0, TX0, 3) = q := Option.some.inj hq
      subst e
      exact k0
    | 1, hq =>
      have e : (RX1, TX1, 6) = q := Option.some.inj hq
      subst e
      exact k1
    | 2, hq =>
      have e : (RX2, TX2, 3) = q := Option.some.inj hq
      subst e
      exact k2
    | 3, hq =>
      have e : (RX3, TX3, 8) = q := Option.some.inj hq
      subst e
      exact k3
    | 4, hq =>
      have e : (RX4, TX4, 9) = q := Option.some.inj hq
      subst e
      exact k4
    | 5, hq =>
      have e : (RX5, TX5, 2) = q := Option.some.inj hq
      subst e
      exact k5
    | 6, hq =>
      have e : (RX6, TX6, 9) = q := Option.some.inj hq
      subst e
      exact k6
    | 7, hq =>
      have e : (RX7, TX7, 4) = q := Option.some.inj hq
      subst e
      exact k7
    | c + 8, hq => exact absurd hq (by intro z; cases z)
  · intro k q hq
    match k, hq with
    | 0, hq =>
      have e : (cI, FieldType.int) = q := Option.some.inj hq
      subst e
      exact ⟨fun n z => ⟨fun k h => (by cases h), kI, a2, pI, a3⟩, a1⟩
    | 1, hq =>
      have e : (cT, FieldType.object "CostumeStock$State") = q := Option.some.inj hq
      subst e
      exact ⟨fun n z => ⟨fun k h => (by cases h), kT, b3, pT, b4⟩, kT, pT, b3, b4, b1, b5⟩
    | k + 2, hq => exact absurd hq (by intro z; cases z)
  · exact fun q hq => va_Nw.of rfl (hts _ ((by decide +kernel : ∀ q ∈ zNest, Cond.methodLinkNest q.1 q.2.1 q.2.2.1 q.2.2.2 ∈ lw_tbl) q hq))
  · exact va_Nw.of rfl (hts _ (by decide +kernel))
theorem lw_tP {args : Array Value} {s : State} (hts : ∀ w ∈ lw_tbl, w.before args s = true) (hs : ∀ w ∈ flatC (Jvm.Cond.and given_1 narrow_1), w.before args s = true) : zT1 "PROGRAMS_OF_CODE" tbP 4 s.heap.size s s.heap := by
  obtain ⟨t, ht, hT⟩ := va_Tof (tm := (.static "CostumeStock" "PROGRAMS_OF_CODE" "[I")) (ty := .int) (N := 4) (f := fun j => .int (zf tbP j)) (A := fun q => s.heap.size ≤ q) (by decide) (hs (.arrayOf (.static "CostumeStock" "PROGRAMS_OF_CODE" "[I") .int) (by decide +kernel)) (va_eqt (hs (.eq (.length (.static "CostumeStock" "PROGRAMS_OF_CODE" "[I")) (.int 4)) (by decide +kernel))) (fun j hj => by
    match j, hj with
    | 0, _ =>
      show (Term.elem (.static "CostumeStock" "PROGRAMS_OF_CODE" "[I") (.int 0)).eval args s none [] s = some (.int (zf tbP 0))
      rw [show zf tbP 0 = 7 by decide]
      exact va_eqt (hs (.eq (.elem (.static "CostumeStock" "PROGRAMS_OF_CODE" "[I") (.int 0)) (.int 7)) (by decide +kernel))
    | 1, _ =>
      show (Term.elem (.static "CostumeStock" "PROGRAMS_OF_CODE" "[I") (.int 1)).eval args s none [] s = some (.int (zf tbP 1))
      rw [show zf tbP 1 = 14 by decide]
      exact va_eqt (hs (.eq (.elem (.static "CostumeStock" "PROGRAMS_OF_CODE" "[I") (.int 1)) (.int 14)) (by decide +kernel))
    | 2, _ =>
      show (Term.elem (.static "CostumeStock" "PROGRAMS_OF_CODE" "[I") (.int 2)).eval args s none [] s = some (.int (zf tbP 2))
      rw [show zf tbP 2 = 12 by decide]
      exact va_eqt (hs (.eq (.elem (.static "CostumeStock" "PROGRAMS_OF_CODE" "[I") (.int 2)) (.int 12)) (by decide +kernel))
    | 3, _ =>
      show (Term.elem (.static "CostumeStock" "PROGRAMS_OF_CODE" "[I") (.int 3)).eval args s none [] s = some (.int (zf tbP 3))
      rw [show zf tbP 3 = 8 by decide]
      exact va_eqt (hs (.eq (.elem (.static "CostumeStock" "PROGRAMS_OF_CODE" "[I") (.int 3)) (.int 8)) (by decide +kernel))
    | j + 4, hj => exact absurd hj (by omega)) (fun a ha => Nat.not_le.mpr ha)
  have hZ := va_Zof (A := fun q => s.heap.size ≤ q) (hts (.laysStatic "CostumeStock" "PROGRAMS_OF_CODE" "[I") (by decide +kernel)) (hts (.initialized "CostumeStock") (by decide +kernel)) ht (fun a ha => Nat.not_le.mpr ha)
  obtain ⟨cell, h1, h2, h3, h4, h5, h6, h7⟩ := hT
  exact ⟨t, hZ, (Array.getElem?_eq_some_iff.mp h1).1, cell, h1, h2, h3, h4, h5, h6⟩
theorem lw_tD {args : Array Value} {s : State} (hts : ∀ w ∈ lw_tbl, w.before args s = true) (hs : ∀ w ∈ flatC (Jvm.Cond.and given_1 narrow_1), w.before args s = true) : zT1 "DIRT_OUT_OF_PROGRAM" tbD 4 s.heap.size s s.heap := by
  obtain ⟨t, ht, hT⟩ := va_Tof (tm := (.static "CostumeStock" "DIRT_OUT_OF_PROGRAM" "[I")) (ty := .int) (N := 4) (f := fun j => .int (zf tbD j)) (A := fun q => s.heap.size ≤ q) (by decide) (hs (.arrayOf (.static "CostumeStock" "DIRT_OUT_OF_PROGRAM" "[I") .int) (by decide +kernel)) (va_eqt (hs (.eq (.length (.static "CostumeStock" "DIRT_OUT_OF_PROGRAM" "[I")) (.int 4)) (by decide +kernel))) (fun j hj => by
    match j, hj with
    | 0, _ =>
      show (Term.elem (.static "CostumeStock" "DIRT_OUT_OF_PROGRAM" "[I") (.int 0)).eval args s none [] s = some (.int (zf tbD 0))
      rw [show zf tbD 0 = 5 by decide]
      exact va_eqt (hs (.eq (.elem (.static "CostumeStock" "DIRT_OUT_OF_PROGRAM" "[I") (.int 0)) (.int 5)) (by decide +kernel))
    | 1, _ =>
      show (Term.elem (.static "CostumeStock" "DIRT_OUT_OF_PROGRAM" "[I") (.int 1)).eval args s none [] s = some (.int (zf tbD 1))
      rw [show zf tbD 1 = 3 by decide]
      exact va_eqt (hs (.eq (.elem (.static "CostumeStock" "DIRT_OUT_OF_PROGRAM" "[I") (.int 1)) (.int 3)) (by decide +kernel))
    | 2, _ =>
      show (Term.elem (.static "CostumeStock" "DIRT_OUT_OF_PROGRAM" "[I") (.int 2)).eval args s none [] s = some (.int (zf tbD 2))
      rw [show zf tbD 2 = 2 by decide]
      exact va_eqt (hs (.eq (.elem (.static "CostumeStock" "DIRT_OUT_OF_PROGRAM" "[I") (.int 2)) (.int 2)) (by decide +kernel))
    | 3, _ =>
      show (Term.elem (.static "CostumeStock" "DIRT_OUT_OF_PROGRAM" "[I") (.int 3)).eval args s none [] s = some (.int (zf tbD 3))
      rw [show zf tbD 3 = 4 by decide]
      exact va_eqt (hs (.eq (.elem (.static "CostumeStock" "DIRT_OUT_OF_PROGRAM" "[I") (.int 3)) (.int 4)) (by decide +kernel))
    | j + 4, hj => exact absurd hj (by omega)) (fun a ha => Nat.not_le.mpr ha)
  have hZ := va_Zof (A := fun q => s.heap.size ≤ q) (hts (.laysStatic "CostumeStock" "DIRT_OUT_OF_PROGRAM" "[I") (by decide +kernel)) (hts (.initialized "CostumeStock") (by decide +kernel)) ht (fun a ha => Nat.not_le.mpr ha)
  obtain ⟨cell, h1, h2, h3, h4, h5, h6, h7⟩ := hT
  exact ⟨t, hZ, (Array.getElem?_eq_some_iff.mp h1).1, cell, h1, h2, h3, h4, h5, h6⟩
theorem lw_tC {args : Array Value} {s : State} (hts : ∀ w ∈ lw_tbl, w.before args s = true) (hs : ∀ w ∈ flatC (Jvm.Cond.and given_1 narrow_1), w.before args s = true) : zT1 "COST_OF_PROGRAM" tbC 4 s.heap.size s s.heap := by
  obtain ⟨t, ht, hT⟩ := va_Tof (tm := (.static "CostumeStock" "COST_OF_PROGRAM" "[I")) (ty := .int) (N := 4) (f := fun j => .int (zf tbC j)) (A := fun q => s.heap.size ≤ q) (by decide) (hs (.arrayOf (.static "CostumeStock" "COST_OF_PROGRAM" "[I") .int) (by decide +kernel)) (va_eqt (hs (.eq (.length (.static "CostumeStock" "COST_OF_PROGRAM" "[I")) (.int 4)) (by decide +kernel))) (fun j hj => by
    match j, hj with
    | 0, _ =>
      show (Term.elem (.static "CostumeStock" "COST_OF_PROGRAM" "[I") (.int 0)).eval args s none [] s = some (.int (zf tbC 0))
      rw [show zf tbC 0 = 8 by decide]
      exact va_eqt (hs (.eq (.elem (.static "CostumeStock" "COST_OF_PROGRAM" "[I") (.int 0)) (.int 8)) (by decide +kernel))
    | 1, _ =>
      show (Term.elem (.static "CostumeStock" "COST_OF_PROGRAM" "[I") (.int 1)).eval args s none [] s = some (.int (zf tbC 1))
      rw [show zf tbC 1 = 6 by decide]
      exact va_eqt (hs (.eq (.elem (.static "CostumeStock" "COST_OF_PROGRAM" "[I") (.int 1)) (.int 6)) (by decide +kernel))
    | 2, _ =>
      show (Term.elem (.static "CostumeStock" "COST_OF_PROGRAM" "[I") (.int 2)).eval args s none [] s = some (.int (zf tbC 2))
      rw [show zf tbC 2 = 10 by decide]
      exact va_eqt (hs (.eq (.elem (.static "CostumeStock" "COST_OF_PROGRAM" "[I") (.int 2)) (.int 10)) (by decide +kernel))
    | 3, _ =>
      show (Term.elem (.static "CostumeStock" "COST_OF_PROGRAM" "[I") (.int 3)).eval args s none [] s = some (.int (zf tbC 3))
      rw [show zf tbC 3 = 15 by decide]
      exact va_eqt (hs (.eq (.elem (.static "CostumeStock" "COST_OF_PROGRAM" "[I") (.int 3)) (.int 15)) (by decide +kernel))
    | j + 4, hj => exact absurd hj (by omega)) (fun a ha => Nat.not_le.mpr ha)
  have hZ := va_Zof (A := fun q => s.heap.size ≤ q) (hts (.laysStatic "CostumeStock" "COST_OF_PROGRAM" "[I") (by decide +kernel)) (hts (.initialized "CostumeStock") (by decide +kernel)) ht (fun a ha => Nat.not_le.mpr ha)
  obtain ⟨cell, h1, h2, h3, h4, h5, h6, h7⟩ := hT
  exact ⟨t, hZ, (Array.getElem?_eq_some_iff.mp h1).1, cell, h1, h2, h3, h4, h5, h6⟩
def stL : List Nat := [50, 56, 70]
def stN : List Nat := [7, 5, 4]
def stB : List (List Int32) := [[99, 111, 115, 116, 117, 109, 101], [97, 99, 116, 111, 114], [100, 97, 114, 107]]
def stT (i : Nat) : Term := .string "CostumeStock$Reader" (stL.getD i 0)
theorem va_Text {ty : FieldType} {t N : Nat} {f g : Nat → Value} {A : Nat → Prop} {U : State} {H : Heap} (h : va_T ty t N f A U H) (e : ∀ j : Nat, j < N → f j = g j) : va_T ty t N g A U H := by
  obtain ⟨cell, h1, h2, h3, h4, h5, h6, h7⟩ := h
  exact ⟨cell, h1, h2, h3, h4, h5, fun j hj => by rw [h6 j hj, e j hj], h7⟩
theorem lw_zSt {args : Array Value} {s : State} (hts : ∀ w ∈ lw_tbl, w.before args s = true) (hs : ∀ w ∈ flatC (Jvm.Cond.and given_1 narrow_1), w.before args s = true) : zSt s.heap.size s s.heap := by
  have hA : ∀ a : Nat, a < s.heap.size → ¬ s.heap.size ≤ a := fun a ha => Nat.not_le.mpr ha
  obtain ⟨adK, adV, hS, hev⟩ := vk_Sof (s := s) (args := args) (N := 3) (tm := stT) (len := stN) (byt := stB) (A := fun a => s.heap.size ≤ a) (by decide)
    (fun i hi => hs _ ((by decide +kernel : ∀ i, i < 3 → (Cond.exactly (stT i) "java/lang/String") ∈ flatC (Jvm.Cond.and given_1 narrow_1)) i hi))
    (fun i hi => hs _ ((by decide +kernel : ∀ i, i < 3 → (Cond.eq (.field (stT i) "java/lang/String" "coder" "B") (.int 0)) ∈ flatC (Jvm.Cond.and given_1 narrow_1)) i hi))
    (fun i hi => hs _ ((by decide +kernel : ∀ i, i < 3 → (Cond.arrayOf (.field (stT i) "java/lang/String" "value" "[B") .byte) ∈ flatC (Jvm.Cond.and given_1 narrow_1)) i hi))
    (fun i hi => hs _ ((by decide +kernel : ∀ i, i < 3 → (Cond.eq (.length (.field (stT i) "java/lang/String" "value" "[B")) (.int (Int32.ofNat (stN.getD i 0)))) ∈ flatC (Jvm.Cond.and given_1 narrow_1)) i hi))
    (fun i hi j hj => hs _ ((by decide +kernel : ∀ i, i < 3 → ∀ j, j < stN.getD i 0 → (Cond.eq (.elem (.field (stT i) "java/lang/String" "value" "[B") (.int (Int32.ofNat j))) (.int ((stB.getD i []).getD j 0))) ∈ flatC (Jvm.Cond.and given_1 narrow_1)) i hi j hj))
    (fun i j hi hj hij => by
      rcases (show i < j ∨ j < i by omega) with z | z
      · exact Or.inl (hs _ ((by decide +kernel : ∀ j, j < 3 → ∀ i, i < j → (Cond.not (Cond.eq (stT i) (stT j))) ∈ flatC (Jvm.Cond.and given_1 narrow_1)) j hj i z))
      · exact Or.inr (hs _ ((by decide +kernel : ∀ j, j < 3 → ∀ i, i < j → (Cond.not (Cond.eq (stT i) (stT j))) ∈ flatC (Jvm.Cond.and given_1 narrow_1)) i hi j z)))
    hA
  have hCS : va_Z "java/lang/String" "COMPACT_STRINGS" "Z" (.int (zI 1)) (fun a => s.heap.size ≤ a) s s.heap := va_Zof (hts (.laysStatic "java/lang/String" "COMPACT_STRINGS" "Z") (by decide +kernel)) (hts (.initialized "java/lang/String") (by decide +kernel)) (va_eqt (hs (.eq (.static "java/lang/String" "COMPACT_STRINGS" "Z") (.int 1)) (by decide +kernel))) hA
  have hSF : va_Zq "jdk/internal/util/Preconditions" "SIOOBE_FORMATTER" "Ljava/util/function/BiFunction;" (fun a => s.heap.size ≤ a) s s.heap := va_Zqof (hts (.laysStatic "jdk/internal/util/Preconditions" "SIOOBE_FORMATTER" "Ljava/util/function/BiFunction;") (by decide +kernel)) (hts (.initialized "jdk/internal/util/Preconditions") (by decide +kernel)) (hs (.isRef (.static "jdk/internal/util/Preconditions" "SIOOBE_FORMATTER" "Ljava/util/function/BiFunction;")) (by decide +kernel)) hA
  refine ⟨adK 0, adK 1, adK 2, adV 0, adV 1, adV 2, ?_, ?_, ?_, vk_R.of (hts (.stringRef "CostumeStock$Reader" 50 "costume") (by decide +kernel)) (hev 0 (by decide)), vk_R.of (hts (.stringRef "CostumeStock$Reader" 56 "actor") (by decide +kernel)) (hev 1 (by decide)), vk_R.of (hts (.stringRef "CostumeStock$Reader" 70 "dark") (by decide +kernel)) (hev 2 (by decide))⟩
  · obtain ⟨h1, h2, h3, h4⟩ := hS.1 0 (by decide)
    exact ⟨h1, h2, h3, va_Text h4 (fun j hj => congrArg Value.int ((by decide : ∀ j, j < 7 → (stB.getD 0 []).getD j 0 = zI (wdC.getD j 0)) j hj)), hCS, hSF⟩
  · obtain ⟨h1, h2, h3, h4⟩ := hS.1 1 (by decide)
    exact ⟨h1, h2, h3, va_Text h4 (fun j hj => congrArg Value.int ((by decide : ∀ j, j < 5 → (stB.getD 1 []).getD j 0 = zI (wdA.getD j 0)) j hj)), hCS, hSF⟩
  · obtain ⟨h1, h2, h3, h4⟩ := hS.1 2 (by decide)
    exact ⟨h1, h2, h3, va_Text h4 (fun j hj => congrArg Value.int ((by decide : ∀ j, j < 4 → (stB.getD 2 []).getD j 0 = zI (wdD.getD j 0)) j hj)), hCS, hSF⟩
