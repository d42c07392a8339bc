/-! ints by integers -/
def zI (a : Int) : Int32 := Int32.ofInt a
def zok (a : Int) : Prop := -2147483648 ≤ a ∧ a ≤ 2147483647
theorem zi_add (a b : Int) : zI a + zI b = zI (a + b) := (Int32.ofInt_add a b).symm
theorem zi_sub (a b : Int) : zI a - zI b = zI (a - b) := (Int32.ofInt_sub a b).symm
theorem zi_mul (a b : Int) : zI a * zI b = zI (a * b) := (Int32.ofInt_mul a b).symm
theorem zi_neg (a : Int) : - zI a = zI (-a) := (Int32.ofInt_neg a).symm
theorem zi_toInt {a : Int} (h : -2147483648 ≤ a ∧ a ≤ 2147483647) : (zI a).toInt = a := Int32.toInt_ofInt_of_le (by omega) (by omega)
theorem zi_lt {a b : Int} (ha : -2147483648 ≤ a ∧ a ≤ 2147483647) (hb : -2147483648 ≤ b ∧ b ≤ 2147483647) : zI a < zI b ↔ a < b := by
  rw [Int32.lt_iff_toInt_lt, zi_toInt ha, zi_toInt hb]
theorem zi_le {a b : Int} (ha : -2147483648 ≤ a ∧ a ≤ 2147483647) (hb : -2147483648 ≤ b ∧ b ≤ 2147483647) : zI a ≤ zI b ↔ a ≤ b := by
  rw [Int32.le_iff_toInt_le, zi_toInt ha, zi_toInt hb]
theorem zi_eq {a b : Int} (ha : -2147483648 ≤ a ∧ a ≤ 2147483647) (hb : -2147483648 ≤ b ∧ b ≤ 2147483647) : zI a = zI b ↔ a = b := by
  rw [← Int32.toInt_inj, zi_toInt ha, zi_toInt hb]
theorem zi_of (x : Int32) : ∃ a : Int, (-2147483648 ≤ a ∧ a ≤ 2147483647) ∧ x = zI a :=
  ⟨x.toInt, ⟨by have := Int32.le_toInt x; omega, by have := Int32.toInt_lt x; omega⟩, (Int32.ofInt_toInt x).symm⟩
theorem zi_clamp {a : Int} (h0 : 0 ≤ a) (h : a ≤ 2147483647) : (((zI a).toNatClampNeg : Nat) : Int) = a := by
  show (((zI a).toInt.toNat : Nat) : Int) = a
  rw [zi_toInt (by omega)]
  omega
theorem zi_in {a : Int} {n : Nat} (h0 : 0 ≤ a) (h : a < (n : Int)) (hn : (n : Int) ≤ 2147483647) : ¬ (zI a < 0 ∨ n ≤ (zI a).toNatClampNeg) := by
  have e := zi_clamp h0 (by omega)
  rintro (q | q)
  · rw [Int32.lt_iff_toInt_lt, zi_toInt (by omega), Int32.toInt_zero] at q
    omega
  · omega
theorem zi_nat (n : Nat) : zI (n : Int) = Int32.ofNat n := by
  first | rfl | exact Int32.ofInt_ofNat | simp [zI]
theorem zi_lit0 : (0 : Int32) = zI 0 := rfl
def zf (g : Int → Int) : Nat → Int32 := fun j => zI (g (j : Int))
def zu (g : Int → Int) (i v : Int) : Int → Int := fun j => if j = i then v else g j
theorem zu_s (g : Int → Int) (i v : Int) : zu g i v i = v := by simp [zu]
theorem zu_n {g : Int → Int} {i v j : Int} (h : j ≠ i) : zu g i v j = g j := by simp [zu, h]
theorem zf_upd {g : Int → Int} {a v : Int} (h0 : 0 ≤ a) (h : a ≤ 2147483647) : upd (zf g) (zI a).toNatClampNeg (zI v) = zf (zu g a v) := by
  have e := zi_clamp h0 h
  funext j
  show (if j = (zI a).toNatClampNeg then zI v else zI (g (j : Int))) = zI (if (j : Int) = a then v else g (j : Int))
  by_cases hj : j = (zI a).toNatClampNeg
  · rw [if_pos hj, if_pos (by rw [hj]; exact e)]
  · rw [if_neg hj, if_neg (fun q => hj (by omega))]
theorem zf_at {g : Int → Int} {a : Int} (h0 : 0 ≤ a) (h : a ≤ 2147483647) : zf g (zI a).toNatClampNeg = zI (g a) := by
  show zI (g (((zI a).toNatClampNeg : Nat) : Int)) = zI (g a)
  rw [zi_clamp h0 h]
theorem zf_ext {f g : Int → Int} {n : Nat} {cA : ClassId} (h : ∀ j : Int, 0 ≤ j → j < (n : Int) → f j = g j) : vp_cell cA (n, .inl (zf f)) = vp_cell cA (n, .inl (zf g)) := by
  rw [vp_cell_i, vp_cell_i]
  show ({ cls := cA, slots := Array.ofFn (n := n) fun j => _, vm := .none } : Cell) = _
  have e : (fun j : Fin n => Value.int (zf f j.val)) = (fun j : Fin n => Value.int (zf g j.val)) := by
    funext j
    show Value.int (zI (f (j.val : Int))) = Value.int (zI (g (j.val : Int)))
    rw [h _ (by omega) (by have := j.isLt; omega)]
  show ({ cls := cA, slots := Array.ofFn (n := n) (fun j : Fin n => Value.int (zf f j.val)), vm := .none } : Cell) = { cls := cA, slots := Array.ofFn (n := n) (fun j : Fin n => Value.int (zf g j.val)), vm := .none }
  rw [e]
/-- an answer that is a truth -/
def bz (P : Prop) (r : Int32) : Prop := (P ∧ r = zI 1) ∨ (¬ P ∧ r = zI 0)
theorem bz_t {P : Prop} (h : P) : bz P (zI 1) := Or.inl ⟨h, rfl⟩
theorem bz_f {P : Prop} (h : ¬ P) : bz P (zI 0) := Or.inr ⟨h, rfl⟩
theorem bz_iff {P Q : Prop} {r : Int32} (h : bz P r) (e : P ↔ Q) : bz Q r := by
  rcases h with ⟨h, q⟩ | ⟨h, q⟩
  · exact Or.inl ⟨e.mp h, q⟩
  · exact Or.inr ⟨fun z => h (e.mpr z), q⟩
noncomputable def ti (P : Prop) : Int := @ite Int P (Classical.propDecidable P) 1 0
theorem ti_t {P : Prop} (h : P) : ti P = 1 := @if_pos P (Classical.propDecidable P) h _ _ _
theorem ti_f {P : Prop} (h : ¬ P) : ti P = 0 := @if_neg P (Classical.propDecidable P) h _ _ _
theorem ti_or (P : Prop) : ti P = 1 ∨ ti P = 0 := by
  rcases Classical.em P with h | h
  · exact Or.inl (ti_t h)
  · exact Or.inr (ti_f h)
theorem ti_iff {P Q : Prop} (e : P ↔ Q) : ti P = ti Q := by rw [propext e]
/-- sums -/
def sm (f : Int → Int) : Nat → Int
  | 0 => 0
  | n + 1 => sm f n + f (n : Int)
theorem sm_0 (f : Int → Int) : sm f 0 = 0 := rfl
theorem sm_s (f : Int → Int) (n : Nat) : sm f (n + 1) = sm f n + f (n : Int) := rfl
theorem sm_congr {f g : Int → Int} {n : Nat} (h : ∀ j : Int, 0 ≤ j → j < (n : Int) → f j = g j) : sm f n = sm g n := by
  induction n with
  | zero => rfl
  | succ n ih => rw [sm_s, sm_s, ih (fun j h0 h1 => h j h0 (by omega)), h n (by omega) (by omega)]
theorem sm_bd {f : Int → Int} {n : Nat} {lo hi : Int} (h : ∀ j : Int, 0 ≤ j → j < (n : Int) → lo ≤ f j ∧ f j ≤ hi) : (n : Int) * lo ≤ sm f n ∧ sm f n ≤ (n : Int) * hi := by
  induction n with
  | zero => simp [sm_0]
  | succ n ih =>
    have h1 := ih (fun j h0 h1 => h j h0 (by omega))
    have h2 := h n (by omega) (by omega)
    rw [sm_s]
    have e1 : ((n + 1 : Nat) : Int) * lo = (n : Int) * lo + lo := by rw [Int.natCast_add, Int.add_mul]; simp
    have e2 : ((n + 1 : Nat) : Int) * hi = (n : Int) * hi + hi := by rw [Int.natCast_add, Int.add_mul]; simp
    rw [e1, e2]
    omega
theorem sm_01 {f : Int → Int} {n : Nat} (h : ∀ j : Int, 0 ≤ f j ∧ f j ≤ 1) : 0 ≤ sm f n ∧ sm f n ≤ (n : Int) := by
  have h1 := sm_bd (f := f) (n := n) (lo := 0) (hi := 1) (fun j _ _ => h j)
  omega
theorem ti_01 (P : Prop) : 0 ≤ ti P ∧ ti P ≤ 1 := by
  rcases ti_or P with h | h <;> omega
section ZR
variable {p : Program} {l : Launch} {e : Env} {R : Room} {s : State} {m : MethodId} {args : Array Value} {below : List Frame} {meth : Method} {c : Code} {H : Heap} {locs : List Loc} {cells slots : Nat} {Q : State → Prop}
variable {cc : ByteArray} {pc : Nat} {ls : Array Slot} {rest : List Value}
theorem zr_iadd (hx : p.tables.exec = Jvm.exec) (hb : c.code = cc) {a b d : Int} (hdg : decode cc pc = .ok (.iadd, 1)) (hd : a + b = d)
    (k : W p l e R s m args below meth c H locs cells slots Q (F0 m (pc + 1) ls (.int (zI d) :: rest))) : W p l e R s m args below meth c H locs cells slots Q (F0 m pc ls (.int (zI b) :: .int (zI a) :: rest)) := by
  refine lv_iadd hx hb hdg ?_
  rw [zi_add, hd]
  exact k
theorem zr_isub (hx : p.tables.exec = Jvm.exec) (hb : c.code = cc) {a b d : Int} (hdg : decode cc pc = .ok (.isub, 1)) (hd : a - b = d)
    (k : W p l e R s m args below meth c H locs cells slots Q (F0 m (pc + 1) ls (.int (zI d) :: rest))) : W p l e R s m args below meth c H locs cells slots Q (F0 m pc ls (.int (zI b) :: .int (zI a) :: rest)) := by
  refine lv_isub hx hb hdg ?_
  rw [zi_sub, hd]
  exact k
theorem zr_imul (hx : p.tables.exec = Jvm.exec) (hb : c.code = cc) {a b d : Int} (hdg : decode cc pc = .ok (.imul, 1)) (hd : a * b = d)
    (k : W p l e R s m args below meth c H locs cells slots Q (F0 m (pc + 1) ls (.int (zI d) :: rest))) : W p l e R s m args below meth c H locs cells slots Q (F0 m pc ls (.int (zI b) :: .int (zI a) :: rest)) := by
  refine lv_imul hx hb hdg ?_
  rw [zi_mul, hd]
  exact k
theorem zr_top {a b : Int} (h : a = b) (k : W p l e R s m args below meth c H locs cells slots Q (F0 m pc ls (.int (zI b) :: rest))) : W p l e R s m args below meth c H locs cells slots Q (F0 m pc ls (.int (zI a) :: rest)) := by
  rw [h]
  exact k
theorem zr_icmp_lt (hx : p.tables.exec = Jvm.exec) (hb : c.code = cc) {a b off : Int} {tgt : Nat} (hdg : decode cc pc = .ok (.if_icmp .lt off, 3)) (ht : (pc : Int) + off = (tgt : Int)) (ha : -2147483648 ≤ a ∧ a ≤ 2147483647) (hb2 : -2147483648 ≤ b ∧ b ≤ 2147483647)
    (kt : a < b → W p l e R s m args below meth c H locs cells slots Q (F0 m tgt ls rest)) (kf : b ≤ a → W p l e R s m args below meth c H locs cells slots Q (F0 m (pc + 3) ls rest)) : W p l e R s m args below meth c H locs cells slots Q (F0 m pc ls (.int (zI b) :: .int (zI a) :: rest)) :=
  lv_icmp_lt hx hb hdg ht (fun h => kt ((zi_lt ha hb2).mp h)) (fun h => kf (Int.not_lt.mp fun q => h ((zi_lt ha hb2).mpr q)))
theorem zr_icmp_ge (hx : p.tables.exec = Jvm.exec) (hb : c.code = cc) {a b off : Int} {tgt : Nat} (hdg : decode cc pc = .ok (.if_icmp .ge off, 3)) (ht : (pc : Int) + off = (tgt : Int)) (ha : -2147483648 ≤ a ∧ a ≤ 2147483647) (hb2 : -2147483648 ≤ b ∧ b ≤ 2147483647)
    (kt : b ≤ a → W p l e R s m args below meth c H locs cells slots Q (F0 m tgt ls rest)) (kf : a < b → W p l e R s m args below meth c H locs cells slots Q (F0 m (pc + 3) ls rest)) : W p l e R s m args below meth c H locs cells slots Q (F0 m pc ls (.int (zI b) :: .int (zI a) :: rest)) :=
  lv_icmp_ge hx hb hdg ht (fun h => kt ((zi_le hb2 ha).mp h)) (fun h => kf (Int.not_le.mp fun q => h ((zi_le hb2 ha).mpr q)))
theorem zr_icmp_gt (hx : p.tables.exec = Jvm.exec) (hb : c.code = cc) {a b off : Int} {tgt : Nat} (hdg : decode cc pc = .ok (.if_icmp .gt off, 3)) (ht : (pc : Int) + off = (tgt : Int)) (ha : -2147483648 ≤ a ∧ a ≤ 2147483647) (hb2 : -2147483648 ≤ b ∧ b ≤ 2147483647)
    (kt : b < a → W p l e R s m args below meth c H locs cells slots Q (F0 m tgt ls rest)) (kf : a ≤ b → W p l e R s m args below meth c H locs cells slots Q (F0 m (pc + 3) ls rest)) : W p l e R s m args below meth c H locs cells slots Q (F0 m pc ls (.int (zI b) :: .int (zI a) :: rest)) :=
  lv_icmp_gt hx hb hdg ht (fun h => kt ((zi_lt hb2 ha).mp h)) (fun h => kf (Int.not_lt.mp fun q => h ((zi_lt hb2 ha).mpr q)))
theorem zr_icmp_le (hx : p.tables.exec = Jvm.exec) (hb : c.code = cc) {a b off : Int} {tgt : Nat} (hdg : decode cc pc = .ok (.if_icmp .le off, 3)) (ht : (pc : Int) + off = (tgt : Int)) (ha : -2147483648 ≤ a ∧ a ≤ 2147483647) (hb2 : -2147483648 ≤ b ∧ b ≤ 2147483647)
    (kt : a ≤ b → W p l e R s m args below meth c H locs cells slots Q (F0 m tgt ls rest)) (kf : b < a → W p l e R s m args below meth c H locs cells slots Q (F0 m (pc + 3) ls rest)) : W p l e R s m args below meth c H locs cells slots Q (F0 m pc ls (.int (zI b) :: .int (zI a) :: rest)) :=
  lv_icmp_le hx hb hdg ht (fun h => kt ((zi_le ha hb2).mp h)) (fun h => kf (Int.not_le.mp fun q => h ((zi_le ha hb2).mpr q)))
theorem zr_icmp_eq (hx : p.tables.exec = Jvm.exec) (hb : c.code = cc) {a b off : Int} {tgt : Nat} (hdg : decode cc pc = .ok (.if_icmp .eq off, 3)) (ht : (pc : Int) + off = (tgt : Int)) (ha : -2147483648 ≤ a ∧ a ≤ 2147483647) (hb2 : -2147483648 ≤ b ∧ b ≤ 2147483647)
    (kt : a = b → W p l e R s m args below meth c H locs cells slots Q (F0 m tgt ls rest)) (kf : a ≠ b → W p l e R s m args below meth c H locs cells slots Q (F0 m (pc + 3) ls rest)) : W p l e R s m args below meth c H locs cells slots Q (F0 m pc ls (.int (zI b) :: .int (zI a) :: rest)) :=
  lv_icmp_eq hx hb hdg ht (fun h => kt ((zi_eq ha hb2).mp h)) (fun h => kf (fun q => h ((zi_eq ha hb2).mpr q)))
theorem zr_icmp_ne (hx : p.tables.exec = Jvm.exec) (hb : c.code = cc) {a b off : Int} {tgt : Nat} (hdg : decode cc pc = .ok (.if_icmp .ne off, 3)) (ht : (pc : Int) + off = (tgt : Int)) (ha : -2147483648 ≤ a ∧ a ≤ 2147483647) (hb2 : -2147483648 ≤ b ∧ b ≤ 2147483647)
    (kt : a ≠ b → W p l e R s m args below meth c H locs cells slots Q (F0 m tgt ls rest)) (kf : a = b → W p l e R s m args below meth c H locs cells slots Q (F0 m (pc + 3) ls rest)) : W p l e R s m args below meth c H locs cells slots Q (F0 m pc ls (.int (zI b) :: .int (zI a) :: rest)) :=
  lv_icmp_ne hx hb hdg ht (fun h => kt (fun q => h ((zi_eq ha hb2).mpr q))) (fun h => kf ((zi_eq ha hb2).mp h))
theorem zr_if_lt (hx : p.tables.exec = Jvm.exec) (hb : c.code = cc) {a off : Int} {tgt : Nat} (hdg : decode cc pc = .ok (.ifCond .lt off, 3)) (ht : (pc : Int) + off = (tgt : Int)) (ha : -2147483648 ≤ a ∧ a ≤ 2147483647)
    (kt : a < 0 → W p l e R s m args below meth c H locs cells slots Q (F0 m tgt ls rest)) (kf : 0 ≤ a → W p l e R s m args below meth c H locs cells slots Q (F0 m (pc + 3) ls rest)) : W p l e R s m args below meth c H locs cells slots Q (F0 m pc ls (.int (zI a) :: rest)) :=
  lv_if_lt hx hb hdg ht (fun h => kt ((zi_lt ha (b := 0) (by decide)).mp h)) (fun h => kf (Int.not_lt.mp fun q => h ((zi_lt ha (b := 0) (by decide)).mpr q)))
theorem zr_if_ge (hx : p.tables.exec = Jvm.exec) (hb : c.code = cc) {a off : Int} {tgt : Nat} (hdg : decode cc pc = .ok (.ifCond .ge off, 3)) (ht : (pc : Int) + off = (tgt : Int)) (ha : -2147483648 ≤ a ∧ a ≤ 2147483647)
    (kt : 0 ≤ a → W p l e R s m args below meth c H locs cells slots Q (F0 m tgt ls rest)) (kf : a < 0 → W p l e R s m args below meth c H locs cells slots Q (F0 m (pc + 3) ls rest)) : W p l e R s m args below meth c H locs cells slots Q (F0 m pc ls (.int (zI a) :: rest)) :=
  lv_if_ge hx hb hdg ht (fun h => kt ((zi_le (a := 0) (by decide) ha).mp h)) (fun h => kf (Int.not_le.mp fun q => h ((zi_le (a := 0) (by decide) ha).mpr q)))
theorem zr_if_gt (hx : p.tables.exec = Jvm.exec) (hb : c.code = cc) {a off : Int} {tgt : Nat} (hdg : decode cc pc = .ok (.ifCond .gt off, 3)) (ht : (pc : Int) + off = (tgt : Int)) (ha : -2147483648 ≤ a ∧ a ≤ 2147483647)
    (kt : 0 < a → W p l e R s m args below meth c H locs cells slots Q (F0 m tgt ls rest)) (kf : a ≤ 0 → W p l e R s m args below meth c H locs cells slots Q (F0 m (pc + 3) ls rest)) : W p l e R s m args below meth c H locs cells slots Q (F0 m pc ls (.int (zI a) :: rest)) :=
  lv_if_gt hx hb hdg ht (fun h => kt ((zi_lt (a := 0) (by decide) ha).mp h)) (fun h => kf (Int.not_lt.mp fun q => h ((zi_lt (a := 0) (by decide) ha).mpr q)))
theorem zr_if_le (hx : p.tables.exec = Jvm.exec) (hb : c.code = cc) {a off : Int} {tgt : Nat} (hdg : decode cc pc = .ok (.ifCond .le off, 3)) (ht : (pc : Int) + off = (tgt : Int)) (ha : -2147483648 ≤ a ∧ a ≤ 2147483647)
    (kt : a ≤ 0 → W p l e R s m args below meth c H locs cells slots Q (F0 m tgt ls rest)) (kf : 0 < a → W p l e R s m args below meth c H locs cells slots Q (F0 m (pc + 3) ls rest)) : W p l e R s m args below meth c H locs cells slots Q (F0 m pc ls (.int (zI a) :: rest)) :=
  lv_if_le hx hb hdg ht (fun h => kt ((zi_le ha (b := 0) (by decide)).mp h)) (fun h => kf (Int.not_le.mp fun q => h ((zi_le ha (b := 0) (by decide)).mpr q)))
theorem zr_if_eq (hx : p.tables.exec = Jvm.exec) (hb : c.code = cc) {a off : Int} {tgt : Nat} (hdg : decode cc pc = .ok (.ifCond .eq off, 3)) (ht : (pc : Int) + off = (tgt : Int)) (ha : -2147483648 ≤ a ∧ a ≤ 2147483647)
    (kt : a = 0 → W p l e R s m args below meth c H locs cells slots Q (F0 m tgt ls rest)) (kf : a ≠ 0 → W p l e R s m args below meth c H locs cells slots Q (F0 m (pc + 3) ls rest)) : W p l e R s m args below meth c H locs cells slots Q (F0 m pc ls (.int (zI a) :: rest)) :=
  lv_if_eq hx hb hdg ht (fun h => kt ((zi_eq ha (b := 0) (by decide)).mp h)) (fun h => kf (fun q => h ((zi_eq ha (b := 0) (by decide)).mpr q)))
theorem zr_if_ne (hx : p.tables.exec = Jvm.exec) (hb : c.code = cc) {a off : Int} {tgt : Nat} (hdg : decode cc pc = .ok (.ifCond .ne off, 3)) (ht : (pc : Int) + off = (tgt : Int)) (ha : -2147483648 ≤ a ∧ a ≤ 2147483647)
    (kt : a ≠ 0 → W p l e R s m args below meth c H locs cells slots Q (F0 m tgt ls rest)) (kf : a = 0 → W p l e R s m args below meth c H locs cells slots Q (F0 m (pc + 3) ls rest)) : W p l e R s m args below meth c H locs cells slots Q (F0 m pc ls (.int (zI a) :: rest)) :=
  lv_if_ne hx hb hdg ht (fun h => kt (fun q => h ((zi_eq ha (b := 0) (by decide)).mpr q))) (fun h => kf ((zi_eq ha (b := 0) (by decide)).mp h))
/-- the locals and the counter: a store, an increment -/
theorem zr_iinc (hx : p.tables.exec = Jvm.exec) (hb : c.code = cc) {i nL k : Nat} {n a d : Int} {lv lv' : List (Nat × Value)} (hdg : decode cc pc = .ok (.iinc i n, 3)) (h : lv_has ls nL lv) (hk : lv[k]? = some (i, .int (zI a))) (hd : a + n = d) (hn : i < nL) (hl : (i, Value.int (zI d)) :: lv.filter (fun q => !(q.1 == i) && !(q.1 + 1 == i && q.2.category == 2)) = lv')
    (kk : ∀ ls' : Array Slot, lv_has ls' nL lv' → W p l e R s m args below meth c H locs cells slots Q (F0 m (pc + 3) ls' rest)) : W p l e R s m args below meth c H locs cells slots Q (F0 m pc ls rest) :=
  lv_iinc (v := zI d) hx hb hdg h hk (by show zI a + zI n = zI d; rw [zi_add, hd]) hn hl kk
/-- an int array that can be read -/
def zAr (n : Nat) (g : Int → Int) (a : Nat) (U : State) (H : Heap) : Prop := ∃ cell : Cell, H[a]? = some cell ∧ U.isArrayOf cell .int ∧ cell.vm ≠ .unknown ∧ n ≤ cell.slots.size ∧ cell.slots.size.toInt32 = Int32.ofNat n ∧ ∀ j : Nat, j < n → cell.slots[j]? = some (.int (zf g j))
theorem zAr.moved {n : Nat} {g : Int → Int} {a : Nat} {u U : State} {H : Heap} (hvm : u.vm.Alike U.vm) (h : zAr n g a u H) : zAr n g a U H := by
  obtain ⟨cell, h1, h2, h3⟩ := h
  exact ⟨cell, h1, State.isArrayOf_alike hvm h2, h3⟩
theorem zAr_of {D : va_G} {cl : List vw_C} {cA : ClassId} {n : Nat} {g : Int → Int} {a : Nat} {U : State} {H : Heap} (hT : ArrOfT U cA .int) (h : va_at D cl (a, .inl (cA, n, .inl (zf g))) H) : zAr n g a U H :=
  ⟨_, h, hT n (fun j => .int (zf g j)), fun q => (by cases q), by show n ≤ (arrV _ _ _).slots.size; rw [arrV_size]; exact Nat.le_refl _, by show (arrV _ _ _).slots.size.toInt32 = _; rw [arrV_size] <;> rfl, fun j hj => by show (arrV _ _ _).slots[_]? = _; rw [arrV_read _ _ hj]⟩
theorem zr_ald (hx : p.tables.exec = Jvm.exec) (hb : c.code = cc) {n : Nat} {g : Int → Int} {a : Nat} {i : Int} (hA : zAr n g a s H) (h0 : 0 ≤ i) (h1 : i < (n : Int)) (hn : (n : Int) ≤ 2147483647) (hdg : decode cc pc = .ok (.iaload, 1))
    (kk : W p l e R s m args below meth c H locs cells slots Q (F0 m (pc + 1) ls (.int (zI (g i)) :: rest))) : W p l e R s m args below meth c H locs cells slots Q (F0 m pc ls (.int (zI i) :: .ref a :: rest)) := by
  obtain ⟨cell, q1, q2, q3, q4, q5, q6⟩ := hA
  have hin := zi_in h0 h1 hn
  have e := zi_clamp h0 (show i ≤ 2147483647 by omega)
  refine W.iald (v := .int (zI (g i))) hx hb q1 q2 q3 (fun q => hin (q.elim Or.inl (fun z => Or.inr (Nat.le_trans q4 z)))) ?_ rfl rfl hdg kk
  rw [q6 _ (by omega), zf_at h0 (by omega)]
theorem zr_alen (hx : p.tables.exec = Jvm.exec) (hb : c.code = cc) {n : Nat} {g : Int → Int} {a : Nat} (hA : zAr n g a s H) (hdg : decode cc pc = .ok (.arraylength, 1))
    (kk : W p l e R s m args below meth c H locs cells slots Q (F0 m (pc + 1) ls (.int (zI (n : Int)) :: rest))) : W p l e R s m args below meth c H locs cells slots Q (F0 m pc ls (.ref a :: rest)) := by
  obtain ⟨cell, q1, q2, q3, q4, q5, q6⟩ := hA
  refine W.alen (n := zI (n : Int)) hx hb q1 q2 ?_ rfl rfl hdg kk
  rw [q5, zi_nat]
end ZR
theorem fa_0 {P : Int → Prop} : ∀ b : Int, 0 ≤ b → b < ((0 : Nat) : Int) → P b := fun b h0 h1 => absurd h1 (by omega)
theorem fa_s {P : Int → Prop} {i : Nat} (h : ∀ b : Int, 0 ≤ b → b < (i : Int) → P b) (hp : P (i : Int)) : ∀ b : Int, 0 ≤ b → b < ((i + 1 : Nat) : Int) → P b := by
  intro b b0 b1
  rcases Int.lt_or_le b (i : Int) with q | q
  · exact h b b0 q
  · have e : b = (i : Int) := by omega
    rw [e]
    exact hp
