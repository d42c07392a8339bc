/-! longs, bits, Math, loops, joins -/
def zL (a : Int) : Int64 := Int64.ofInt a
theorem zl_toInt {a : Int} (h : -9223372036854775808 ≤ a ∧ a ≤ 9223372036854775807) : (zL a).toInt = a := Int64.toInt_ofInt_of_le (by omega) (by omega)
theorem zl_add (a b : Int) : zL a + zL b = zL (a + b) := (Int64.ofInt_add a b).symm
theorem zl_sub (a b : Int) : zL a - zL b = zL (a - b) := (Int64.ofInt_sub a b).symm
theorem zl_mul (a b : Int) : zL a * zL b = zL (a * b) := (Int64.ofInt_mul a b).symm
theorem zl_of {a : Int} (h : -2147483648 ≤ a ∧ a ≤ 2147483647) : (zI a).toInt64 = zL a := by
  show Int64.ofInt (zI a).toInt = zL a
  rw [zi_toInt h]
  rfl
theorem zl_to {a : Int} (h : -2147483648 ≤ a ∧ a ≤ 2147483647) : (zL a).toInt32 = zI a := by
  apply Int32.toInt_inj.mp
  rw [zi_toInt h, Int64.toInt_toInt32, zl_toInt (by omega)]
  exact Int.bmod_eq_of_le (by omega) (by omega)
def zabs (a : Int) : Int := if 0 ≤ a then a else -a
theorem zabs_p {a : Int} (h : 0 ≤ a) : zabs a = a := if_pos h
theorem zabs_n {a : Int} (h : a < 0) : zabs a = -a := if_neg (by omega)
section ZX
variable {p : Program} {l : Launch} {e : Env} {R : Room} {s : State} {m : MethodId} {args : Array Value} {below : List Frame} {meth : Method} {c : Code} {H : Heap} {locs : List Loc} {cells slots : Nat} {Q : State → Prop}
variable {cc : ByteArray} {pc : Nat} {ls : Array Slot} {rest : List Value}
theorem zr_ldc (hx : p.tables.exec = Jvm.exec) (hb : c.code = cc) {own : String} {index : Nat} {w : Int} {v : Int32} (hown : s.vm.findClass own = some m.cls) (hconst : (Jvm.Cond.constant own index v).before args s = true) (hdg : decode cc pc = .ok (.ldc index, 2)) (hv : v = zI w)
    (k : W p l e R s m args below meth c H locs cells slots Q (F0 m (pc + 2) ls (.int (zI w) :: rest))) : W p l e R s m args below meth c H locs cells slots Q (F0 m pc ls rest) := by
  subst hv
  exact lv_ldc hx hb hown hconst hdg k
theorem zr_ldc2 (hx : p.tables.exec = Jvm.exec) (hb : c.code = cc) {own : String} {index : Nat} {w : Int} {v : Int64} (hown : s.vm.findClass own = some m.cls) (hconst : (Jvm.Cond.constantLong own index v).before args s = true) (hdg : decode cc pc = .ok (.ldc2_w index, 3)) (hv : v = zL w)
    (k : W p l e R s m args below meth c H locs cells slots Q (F0 m (pc + 3) ls (.long (zL w) :: rest))) : W p l e R s m args below meth c H locs cells slots Q (F0 m pc ls rest) := by
  subst hv
  exact lv_ldc2 hx hb hown hconst hdg k
theorem zr_i2l (hx : p.tables.exec = Jvm.exec) (hb : c.code = cc) {a : Int} (hdg : decode cc pc = .ok (.i2l, 1)) (ha : -2147483648 ≤ a ∧ a ≤ 2147483647)
    (k : W p l e R s m args below meth c H locs cells slots Q (F0 m (pc + 1) ls (.long (zL a) :: rest))) : W p l e R s m args below meth c H locs cells slots Q (F0 m pc ls (.int (zI a) :: rest)) := lv_i2l hx hb hdg (zl_of ha) k
theorem zr_l2i (hx : p.tables.exec = Jvm.exec) (hb : c.code = cc) {a : Int} (hdg : decode cc pc = .ok (.l2i, 1)) (ha : -2147483648 ≤ a ∧ a ≤ 2147483647)
    (k : W p l e R s m args below meth c H locs cells slots Q (F0 m (pc + 1) ls (.int (zI a) :: rest))) : W p l e R s m args below meth c H locs cells slots Q (F0 m pc ls (.long (zL a) :: rest)) := lv_l2i hx hb hdg (zl_to ha) k
theorem zr_ladd (hx : p.tables.exec = Jvm.exec) (hb : c.code = cc) {a b d : Int} (hdg : decode cc pc = .ok (.ladd, 1)) (hd : a + b = d)
    (k : W p l e R s m args below meth c H locs cells slots Q (F0 m (pc + 1) ls (.long (zL d) :: rest))) : W p l e R s m args below meth c H locs cells slots Q (F0 m pc ls (.long (zL b) :: .long (zL a) :: rest)) := by
  refine lv_ladd hx hb hdg ?_
  rw [zl_add, hd]
  exact k
theorem zr_lsub (hx : p.tables.exec = Jvm.exec) (hb : c.code = cc) {a b d : Int} (hdg : decode cc pc = .ok (.lsub, 1)) (hd : a - b = d)
    (k : W p l e R s m args below meth c H locs cells slots Q (F0 m (pc + 1) ls (.long (zL d) :: rest))) : W p l e R s m args below meth c H locs cells slots Q (F0 m pc ls (.long (zL b) :: .long (zL a) :: rest)) := by
  refine lv_lsub hx hb hdg ?_
  rw [zl_sub, hd]
  exact k
theorem zr_lmul (hx : p.tables.exec = Jvm.exec) (hb : c.code = cc) {a b d : Int} (hdg : decode cc pc = .ok (.lmul, 1)) (hd : a * b = d)
    (k : W p l e R s m args below meth c H locs cells slots Q (F0 m (pc + 1) ls (.long (zL d) :: rest))) : W p l e R s m args below meth c H locs cells slots Q (F0 m pc ls (.long (zL b) :: .long (zL a) :: rest)) := by
  refine lv_lmul hx hb hdg ?_
  rw [zl_mul, hd]
  exact k
theorem zl_cmp {a b : Int} (ha : -9223372036854775808 ≤ a ∧ a ≤ 9223372036854775807) (hb2 : -9223372036854775808 ≤ b ∧ b ≤ 9223372036854775807) : lg_cmp (zL a) (zL b) = if b < a then 1 else if a = b then 0 else -1 := by
  have h1 : (zL a > zL b) = (b < a) := by
    rw [gt_iff_lt, Int64.lt_iff_toInt_lt, zl_toInt ha, zl_toInt hb2]
  have h2 : (zL a = zL b) = (a = b) := by
    rw [← Int64.toInt_inj, zl_toInt ha, zl_toInt hb2]
  simp only [lg_cmp, h1, h2]
theorem zr_lcmp_lt (hx : p.tables.exec = Jvm.exec) (hb : c.code = cc) {a b off : Int} {tgt : Nat} (hdg : decode cc pc = .ok (.lcmp, 1)) (hdg2 : decode cc (pc + 1) = .ok (.ifCond .lt off, 3)) (ht : ((pc + 1 : Nat) : Int) + off = (tgt : Int)) (ha : -9223372036854775808 ≤ a ∧ a ≤ 9223372036854775807) (hb2 : -9223372036854775808 ≤ b ∧ b ≤ 9223372036854775807)
    (kt : a < b → W p l e R s m args below meth c H locs cells slots Q (F0 m tgt ls rest)) (kf : b ≤ a → W p l e R s m args below meth c H locs cells slots Q (F0 m (pc + 1 + 3) ls rest)) : W p l e R s m args below meth c H locs cells slots Q (F0 m pc ls (.long (zL b) :: .long (zL a) :: rest)) := by
  refine W.lcmp hx hb hdg ?_
  rw [zl_cmp ha hb2]
  refine lv_if_lt hx hb hdg2 ht (fun h => kt ?_) (fun h => kf ?_)
  · rcases Int.lt_trichotomy a b with q | q | q
    · exact q
    · rw [if_neg (by omega), if_pos q] at h; exact absurd h (by decide)
    · rw [if_pos q] at h; exact absurd h (by decide)
  · rcases Int.lt_trichotomy a b with q | q | q
    · rw [if_neg (by omega), if_neg (by omega)] at h; exact absurd (by decide) h
    · omega
    · omega
theorem zr_lcmp_gt (hx : p.tables.exec = Jvm.exec) (hb : c.code = cc) {a b off : Int} {tgt : Nat} (hdg : decode cc pc = .ok (.lcmp, 1)) (hdg2 : decode cc (pc + 1) = .ok (.ifCond .gt off, 3)) (ht : ((pc + 1 : Nat) : Int) + off = (tgt : Int)) (ha : -9223372036854775808 ≤ a ∧ a ≤ 9223372036854775807) (hb2 : -9223372036854775808 ≤ b ∧ b ≤ 9223372036854775807)
    (kt : b < a → W p l e R s m args below meth c H locs cells slots Q (F0 m tgt ls rest)) (kf : a ≤ b → W p l e R s m args below meth c H locs cells slots Q (F0 m (pc + 1 + 3) ls rest)) : W p l e R s m args below meth c H locs cells slots Q (F0 m pc ls (.long (zL b) :: .long (zL a) :: rest)) := by
  refine W.lcmp hx hb hdg ?_
  rw [zl_cmp ha hb2]
  refine lv_if_gt hx hb hdg2 ht (fun h => kt ?_) (fun h => kf ?_)
  · rcases Int.lt_trichotomy a b with q | q | q
    · rw [if_neg (by omega), if_neg (by omega)] at h; exact absurd h (by decide)
    · rw [if_neg (by omega), if_pos q] at h; exact absurd h (by decide)
    · exact q
  · rcases Int.lt_trichotomy a b with q | q | q
    · omega
    · omega
    · rw [if_pos q] at h; exact absurd (by decide) h
theorem zr_lcmp_ge (hx : p.tables.exec = Jvm.exec) (hb : c.code = cc) {a b off : Int} {tgt : Nat} (hdg : decode cc pc = .ok (.lcmp, 1)) (hdg2 : decode cc (pc + 1) = .ok (.ifCond .ge off, 3)) (ht : ((pc + 1 : Nat) : Int) + off = (tgt : Int)) (ha : -9223372036854775808 ≤ a ∧ a ≤ 9223372036854775807) (hb2 : -9223372036854775808 ≤ b ∧ b ≤ 9223372036854775807)
    (kt : b ≤ a → W p l e R s m args below meth c H locs cells slots Q (F0 m tgt ls rest)) (kf : a < b → W p l e R s m args below meth c H locs cells slots Q (F0 m (pc + 1 + 3) ls rest)) : W p l e R s m args below meth c H locs cells slots Q (F0 m pc ls (.long (zL b) :: .long (zL a) :: rest)) := by
  refine W.lcmp hx hb hdg ?_
  rw [zl_cmp ha hb2]
  refine lv_if_ge hx hb hdg2 ht (fun h => kt ?_) (fun h => kf ?_)
  · rcases Int.lt_trichotomy a b with q | q | q
    · rw [if_neg (by omega), if_neg (by omega)] at h; exact absurd h (by decide)
    · omega
    · omega
  · rcases Int.lt_trichotomy a b with q | q | q
    · exact q
    · rw [if_neg (by omega), if_pos q] at h; exact absurd (by decide) h
    · rw [if_pos q] at h; exact absurd (by decide) h
theorem zr_lcmp_ne (hx : p.tables.exec = Jvm.exec) (hb : c.code = cc) {a b off : Int} {tgt : Nat} (hdg : decode cc pc = .ok (.lcmp, 1)) (hdg2 : decode cc (pc + 1) = .ok (.ifCond .ne off, 3)) (ht : ((pc + 1 : Nat) : Int) + off = (tgt : Int)) (ha : -9223372036854775808 ≤ a ∧ a ≤ 9223372036854775807) (hb2 : -9223372036854775808 ≤ b ∧ b ≤ 9223372036854775807)
    (kt : a ≠ b → W p l e R s m args below meth c H locs cells slots Q (F0 m tgt ls rest)) (kf : a = b → W p l e R s m args below meth c H locs cells slots Q (F0 m (pc + 1 + 3) ls rest)) : W p l e R s m args below meth c H locs cells slots Q (F0 m pc ls (.long (zL b) :: .long (zL a) :: rest)) := by
  refine W.lcmp hx hb hdg ?_
  rw [zl_cmp ha hb2]
  refine lv_if_ne hx hb hdg2 ht (fun h => kt ?_) (fun h => kf ?_)
  · rintro q
    rw [if_neg (by omega), if_pos q] at h; exact h rfl
  · rcases Int.lt_trichotomy a b with q | q | q
    · rw [if_neg (by omega), if_neg (by omega)] at h; exact absurd h (by decide)
    · exact q
    · rw [if_pos q] at h; exact absurd h (by decide)
theorem zr_ishl (hx : p.tables.exec = Jvm.exec) (hb : c.code = cc) {a b d : Int} (hdg : decode cc pc = .ok (.ishl, 1)) (hd : zI a <<< (zI b &&& 31) = zI d)
    (k : W p l e R s m args below meth c H locs cells slots Q (F0 m (pc + 1) ls (.int (zI d) :: rest))) : W p l e R s m args below meth c H locs cells slots Q (F0 m pc ls (.int (zI b) :: .int (zI a) :: rest)) := by
  refine lv_ishl hx hb hdg ?_
  rw [hd]
  exact k
theorem zr_ishr (hx : p.tables.exec = Jvm.exec) (hb : c.code = cc) {a b d : Int} (hdg : decode cc pc = .ok (.ishr, 1)) (hd : zI a >>> (zI b &&& 31) = zI d)
    (k : W p l e R s m args below meth c H locs cells slots Q (F0 m (pc + 1) ls (.int (zI d) :: rest))) : W p l e R s m args below meth c H locs cells slots Q (F0 m pc ls (.int (zI b) :: .int (zI a) :: rest)) := by
  refine lv_ishr hx hb hdg ?_
  rw [hd]
  exact k
theorem zr_iushr (hx : p.tables.exec = Jvm.exec) (hb : c.code = cc) {a b d : Int} (hdg : decode cc pc = .ok (.iushr, 1)) (hd : ((zI a).toUInt32 >>> ((zI b).toUInt32 &&& Int32.toUInt32 31)).toInt32 = zI d)
    (k : W p l e R s m args below meth c H locs cells slots Q (F0 m (pc + 1) ls (.int (zI d) :: rest))) : W p l e R s m args below meth c H locs cells slots Q (F0 m pc ls (.int (zI b) :: .int (zI a) :: rest)) := lv_iushr hx hb hdg hd k
theorem zr_iand (hx : p.tables.exec = Jvm.exec) (hb : c.code = cc) {a b d : Int} (hdg : decode cc pc = .ok (.iand, 1)) (hd : zI a &&& zI b = zI d)
    (k : W p l e R s m args below meth c H locs cells slots Q (F0 m (pc + 1) ls (.int (zI d) :: rest))) : W p l e R s m args below meth c H locs cells slots Q (F0 m pc ls (.int (zI b) :: .int (zI a) :: rest)) := by
  refine lv_iand hx hb hdg ?_
  rw [hd]
  exact k
theorem zr_ior (hx : p.tables.exec = Jvm.exec) (hb : c.code = cc) {a b d : Int} (hdg : decode cc pc = .ok (.ior, 1)) (hd : zI a ||| zI b = zI d)
    (k : W p l e R s m args below meth c H locs cells slots Q (F0 m (pc + 1) ls (.int (zI d) :: rest))) : W p l e R s m args below meth c H locs cells slots Q (F0 m pc ls (.int (zI b) :: .int (zI a) :: rest)) := by
  refine lv_ior hx hb hdg ?_
  rw [hd]
  exact k
theorem zr_idiv (hx : p.tables.exec = Jvm.exec) (hb : c.code = cc) {a b d : Int} (hdg : decode cc pc = .ok (.idiv, 1)) (hd : ¬ zI b = 0 ∧ zI a / zI b = zI d)
    (k : W p l e R s m args below meth c H locs cells slots Q (F0 m (pc + 1) ls (.int (zI d) :: rest))) : W p l e R s m args below meth c H locs cells slots Q (F0 m pc ls (.int (zI b) :: .int (zI a) :: rest)) := by
  refine lv_idiv hx hb hdg hd.1 ?_
  rw [hd.2]
  exact k
theorem zi_tdiv {a b : Int} (ha : -2147483647 ≤ a ∧ a ≤ 2147483647) (hb : 0 < b ∧ b ≤ 2147483647) : ¬ zI b = 0 ∧ zI a / zI b = zI (a.tdiv b) := by
  refine ⟨fun h => ?_, ?_⟩
  · have := (zi_eq (a := b) (b := 0) (by omega) (by decide)).mp h
    omega
  · apply Int32.toInt_inj.mp
    have h1 : (zI a).toInt = a := zi_toInt (by omega)
    have h2 : (zI b).toInt = b := zi_toInt (by omega)
    rw [Int32.toInt_div, h1, h2]
    have h3 : -2147483647 ≤ a.tdiv b ∧ a.tdiv b ≤ 2147483647 := by
      rcases Int.le_total 0 a with q | q
      · have e1 := Int.tdiv_nonneg q (by omega : 0 ≤ b)
        have e2 := Int.tdiv_le_self b q
        omega
      · have e1 := Int.tdiv_nonneg (by omega : 0 ≤ -a) (by omega : 0 ≤ b)
        have e2 := Int.tdiv_le_self b (by omega : 0 ≤ -a)
        rw [Int.neg_tdiv] at e1 e2
        omega
    rw [zi_toInt (by omega)]
    exact Int.bmod_eq_of_le (by omega) (by omega)
theorem zr_mmin (hx : p.tables.exec = Jvm.exec) (hb : c.code = cc) (hml : c.maxLocals = ls.size) {own : String} {index : Nat} (hown : s.vm.findClass own = some m.cls) (hlink : (Cond.methodLink own index Lib.Math.min.name).before args s = true) (hstat : (Cond.static Lib.Math.min.name).before args s = true) (hini : (Cond.initialized "java/lang/Math").before args s = true) (hcode : (Cond.code Lib.Math.min.name Lib.Math.min.code 2 (some .int)).before args s = true)
    (hframes : 1 ≤ R.frames) (hlocals : (rest.map fun v => v.category).sum + 13 ≤ R.locals) (hc : cells ≤ R.cells) (hs : slots ≤ R.slots) {a b d : Int} (hdg : decode cc pc = .ok (.invokestatic index, 3)) (ha : -2147483648 ≤ a ∧ a ≤ 2147483647) (hb2 : -2147483648 ≤ b ∧ b ≤ 2147483647) (hd : min a b = d)
    (k : W p l e R s m args below meth c H locs cells slots Q (F0 m (pc + 3) ls (.int (zI d) :: rest))) : W p l e R s m args below meth c H locs cells slots Q (F0 m pc ls (.int (zI b) :: .int (zI a) :: rest)) := by
  refine va_mmin hx hb hml hown hlink hstat hini hcode hframes hlocals hc hs hdg ?_
  have e : (if zI b < zI a then zI b else zI a) = zI d := by
    by_cases h : b < a
    · rw [if_pos ((zi_lt hb2 ha).mpr h), ← hd, Int.min_eq_right (by omega)]
    · rw [if_neg (fun q => h ((zi_lt hb2 ha).mp q)), ← hd, Int.min_eq_left (by omega)]
  rw [e]
  exact k
theorem zr_mmax (hx : p.tables.exec = Jvm.exec) (hb : c.code = cc) (hml : c.maxLocals = ls.size) {own : String} {index : Nat} (hown : s.vm.findClass own = some m.cls) (hlink : (Cond.methodLink own index Lib.Math.max.name).before args s = true) (hstat : (Cond.static Lib.Math.max.name).before args s = true) (hini : (Cond.initialized "java/lang/Math").before args s = true) (hcode : (Cond.code Lib.Math.max.name Lib.Math.max.code 2 (some .int)).before args s = true)
    (hframes : 1 ≤ R.frames) (hlocals : (rest.map fun v => v.category).sum + 13 ≤ R.locals) (hc : cells ≤ R.cells) (hs : slots ≤ R.slots) {a b d : Int} (hdg : decode cc pc = .ok (.invokestatic index, 3)) (ha : -2147483648 ≤ a ∧ a ≤ 2147483647) (hb2 : -2147483648 ≤ b ∧ b ≤ 2147483647) (hd : max a b = d)
    (k : W p l e R s m args below meth c H locs cells slots Q (F0 m (pc + 3) ls (.int (zI d) :: rest))) : W p l e R s m args below meth c H locs cells slots Q (F0 m pc ls (.int (zI b) :: .int (zI a) :: rest)) := by
  refine va_mmax hx hb hml hown hlink hstat hini hcode hframes hlocals hc hs hdg ?_
  have e : (if zI a < zI b then zI b else zI a) = zI d := by
    by_cases h : a < b
    · rw [if_pos ((zi_lt ha hb2).mpr h), ← hd, Int.max_eq_right (by omega)]
    · rw [if_neg (fun q => h ((zi_lt ha hb2).mp q)), ← hd, Int.max_eq_left (by omega)]
  rw [e]
  exact k
theorem zr_mabs (hx : p.tables.exec = Jvm.exec) (hb : c.code = cc) (hml : c.maxLocals = ls.size) {own : String} {index : Nat} (hown : s.vm.findClass own = some m.cls) (hlink : (Cond.methodLink own index Lib.Math.abs.name).before args s = true) (hstat : (Cond.static Lib.Math.abs.name).before args s = true) (hini : (Cond.initialized "java/lang/Math").before args s = true) (hcode : (Cond.code Lib.Math.abs.name Lib.Math.abs.code 1 (some .int)).before args s = true)
    (hframes : 1 ≤ R.frames) (hlocals : (rest.map fun v => v.category).sum + 13 ≤ R.locals) (hc : cells ≤ R.cells) (hs : slots ≤ R.slots) {a d : Int} (hdg : decode cc pc = .ok (.invokestatic index, 3)) (ha : -2147483648 ≤ a ∧ a ≤ 2147483647) (hd : zabs a = d)
    (k : W p l e R s m args below meth c H locs cells slots Q (F0 m (pc + 3) ls (.int (zI d) :: rest))) : W p l e R s m args below meth c H locs cells slots Q (F0 m pc ls (.int (zI a) :: rest)) := by
  refine va_mabs hx hb hml hown hlink hstat hini hcode hframes hlocals hc hs hdg ?_
  have e : (if 0 ≤ zI a then zI a else 0 - zI a) = zI d := by
    show (if zI 0 ≤ zI a then zI a else zI 0 - zI a) = zI d
    by_cases h : 0 ≤ a
    · rw [if_pos ((zi_le (a := 0) (by decide) ha).mpr h), ← hd, zabs_p h]
    · rw [if_neg (fun q => h ((zi_le (a := 0) (by decide) ha).mp q)), ← hd, zabs_n (by omega)]
      rw [zi_sub]
      congr 1
      omega
  rw [e]
  exact k
theorem zr_lookup (hx : p.tables.exec = Jvm.exec) (hb : c.code = cc) {dflt : Int} {ps : Array (Int × Int)} {len : Nat} {x : Int32} {off : Int} {tgt : Nat} (hdg : decode cc pc = .ok (.lookupswitch dflt ps, len)) (hp : (ps.toList.zip (ps.toList.drop 1)).all (fun (a, next) => a.1 < next.1) = true) (ho : Op.lookupswitch.offset ps.toList dflt x.toInt = off) (ht : (pc : Int) + off = (tgt : Int))
    (k : W p l e R s m args below meth c H locs cells slots Q (F0 m tgt ls rest)) : W p l e R s m args below meth c H locs cells slots Q (F0 m pc ls (.int x :: rest)) := lv_lookup hx hb hdg hp ho ht k
theorem zr_loop1 {A1 : Type} {nL : Nat} (I : A1 → Prop) (μ : A1 → Nat) (lv : A1 → List (Nat × Value)) (body : ∀ (a1 : A1), I a1 → (∀ (b1 : A1), I b1 → μ b1 < μ a1 → ∀ ls : Array Slot, lv_has ls nL (lv b1) → W p l e R s m args below meth c H locs cells slots Q (F0 m pc ls [])) → ∀ ls : Array Slot, lv_has ls nL (lv a1) → W p l e R s m args below meth c H locs cells slots Q (F0 m pc ls [])) (a1 : A1) (h0 : I a1) (hl : lv_has ls nL (lv a1)) : W p l e R s m args below meth c H locs cells slots Q (F0 m pc ls []) := by
  have key : ∀ (n : Nat) (a1 : A1), μ a1 < n → I a1 → ∀ ls : Array Slot, lv_has ls nL (lv a1) → W p l e R s m args below meth c H locs cells slots Q (F0 m pc ls []) := by
    intro n
    induction n with
    | zero => intro a1 h; exact absurd h (Nat.not_lt_zero _)
    | succ n ih => intro a1 h hI ls hl; exact body a1 hI (fun b1 hI2 hm ls hl => ih b1 (by omega) hI2 ls hl) ls hl
  exact key (μ a1 + 1) a1 (Nat.lt_succ_self _) h0 ls hl
theorem zr_hloop1 {A1 : Type} {nL : Nat} {A0 : Nat → Prop} {H0 : Heap} (I : A1 → Heap → Prop) (μ : A1 → Nat) (lv : A1 → List (Nat × Value)) (body : ∀ (a1 : A1) (H : Heap) (locs : List Loc), I a1 H → va_S A0 H0 H locs → (∀ (b1 : A1) (H1 : Heap) (locs1 : List Loc), I b1 H1 → va_S A0 H0 H1 locs1 → μ b1 < μ a1 → ∀ ls : Array Slot, lv_has ls nL (lv b1) → W p l e R s m args below meth c H1 locs1 cells slots Q (F0 m pc ls [])) → ∀ ls : Array Slot, lv_has ls nL (lv a1) → W p l e R s m args below meth c H locs cells slots Q (F0 m pc ls [])) (a1 : A1) (h0 : I a1 H) (hS : va_S A0 H0 H locs) (hl : lv_has ls nL (lv a1)) : W p l e R s m args below meth c H locs cells slots Q (F0 m pc ls []) := by
  have key : ∀ (n : Nat) (a1 : A1) (H : Heap) (locs : List Loc), μ a1 < n → I a1 H → va_S A0 H0 H locs → ∀ ls : Array Slot, lv_has ls nL (lv a1) → W p l e R s m args below meth c H locs cells slots Q (F0 m pc ls []) := by
    intro n
    induction n with
    | zero => intro a1 H locs h; exact absurd h (Nat.not_lt_zero _)
    | succ n ih => intro a1 H locs h hI hS ls hl; exact body a1 H locs hI hS (fun b1 H1 locs1 hI2 hS1 hm ls hl => ih b1 H1 locs1 (by omega) hI2 hS1 ls hl) ls hl
  exact key (μ a1 + 1) a1 H locs (Nat.lt_succ_self _) h0 hS ls hl
theorem zr_loop2 {A1 A2 : Type} {nL : Nat} (I : A1 → A2 → Prop) (μ : A1 → A2 → Nat) (lv : A1 → A2 → List (Nat × Value)) (body : ∀ (a1 : A1) (a2 : A2), I a1 a2 → (∀ (b1 : A1) (b2 : A2), I b1 b2 → μ b1 b2 < μ a1 a2 → ∀ ls : Array Slot, lv_has ls nL (lv b1 b2) → W p l e R s m args below meth c H locs cells slots Q (F0 m pc ls [])) → ∀ ls : Array Slot, lv_has ls nL (lv a1 a2) → W p l e R s m args below meth c H locs cells slots Q (F0 m pc ls [])) (a1 : A1) (a2 : A2) (h0 : I a1 a2) (hl : lv_has ls nL (lv a1 a2)) : W p l e R s m args below meth c H locs cells slots Q (F0 m pc ls []) := by
  have key : ∀ (n : Nat) (a1 : A1) (a2 : A2), μ a1 a2 < n → I a1 a2 → ∀ ls : Array Slot, lv_has ls nL (lv a1 a2) → W p l e R s m args below meth c H locs cells slots Q (F0 m pc ls []) := by
    intro n
    induction n with
    | zero => intro a1 a2 h; exact absurd h (Nat.not_lt_zero _)
    | succ n ih => intro a1 a2 h hI ls hl; exact body a1 a2 hI (fun b1 b2 hI2 hm ls hl => ih b1 b2 (by omega) hI2 ls hl) ls hl
  exact key (μ a1 a2 + 1) a1 a2 (Nat.lt_succ_self _) h0 ls hl
theorem zr_hloop2 {A1 A2 : Type} {nL : Nat} {A0 : Nat → Prop} {H0 : Heap} (I : A1 → A2 → Heap → Prop) (μ : A1 → A2 → Nat) (lv : A1 → A2 → List (Nat × Value)) (body : ∀ (a1 : A1) (a2 : A2) (H : Heap) (locs : List Loc), I a1 a2 H → va_S A0 H0 H locs → (∀ (b1 : A1) (b2 : A2) (H1 : Heap) (locs1 : List Loc), I b1 b2 H1 → va_S A0 H0 H1 locs1 → μ b1 b2 < μ a1 a2 → ∀ ls : Array Slot, lv_has ls nL (lv b1 b2) → W p l e R s m args below meth c H1 locs1 cells slots Q (F0 m pc ls [])) → ∀ ls : Array Slot, lv_has ls nL (lv a1 a2) → W p l e R s m args below meth c H locs cells slots Q (F0 m pc ls [])) (a1 : A1) (a2 : A2) (h0 : I a1 a2 H) (hS : va_S A0 H0 H locs) (hl : lv_has ls nL (lv a1 a2)) : W p l e R s m args below meth c H locs cells slots Q (F0 m pc ls []) := by
  have key : ∀ (n : Nat) (a1 : A1) (a2 : A2) (H : Heap) (locs : List Loc), μ a1 a2 < n → I a1 a2 H → va_S A0 H0 H locs → ∀ ls : Array Slot, lv_has ls nL (lv a1 a2) → W p l e R s m args below meth c H locs cells slots Q (F0 m pc ls []) := by
    intro n
    induction n with
    | zero => intro a1 a2 H locs h; exact absurd h (Nat.not_lt_zero _)
    | succ n ih => intro a1 a2 H locs h hI hS ls hl; exact body a1 a2 H locs hI hS (fun b1 b2 H1 locs1 hI2 hS1 hm ls hl => ih b1 b2 H1 locs1 (by omega) hI2 hS1 ls hl) ls hl
  exact key (μ a1 a2 + 1) a1 a2 H locs (Nat.lt_succ_self _) h0 hS ls hl
theorem zr_loop3 {A1 A2 A3 : Type} {nL : Nat} (I : A1 → A2 → A3 → Prop) (μ : A1 → A2 → A3 → Nat) (lv : A1 → A2 → A3 → List (Nat × Value)) (body : ∀ (a1 : A1) (a2 : A2) (a3 : A3), I a1 a2 a3 → (∀ (b1 : A1) (b2 : A2) (b3 : A3), I b1 b2 b3 → μ b1 b2 b3 < μ a1 a2 a3 → ∀ ls : Array Slot, lv_has ls nL (lv b1 b2 b3) → W p l e R s m args below meth c H locs cells slots Q (F0 m pc ls [])) → ∀ ls : Array Slot, lv_has ls nL (lv a1 a2 a3) → W p l e R s m args below meth c H locs cells slots Q (F0 m pc ls [])) (a1 : A1) (a2 : A2) (a3 : A3) (h0 : I a1 a2 a3) (hl : lv_has ls nL (lv a1 a2 a3)) : W p l e R s m args below meth c H locs cells slots Q (F0 m pc ls []) := by
  have key : ∀ (n : Nat) (a1 : A1) (a2 : A2) (a3 : A3), μ a1 a2 a3 < n → I a1 a2 a3 → ∀ ls : Array Slot, lv_has ls nL (lv a1 a2 a3) → W p l e R s m args below meth c H locs cells slots Q (F0 m pc ls []) := by
    intro n
    induction n with
    | zero => intro a1 a2 a3 h; exact absurd h (Nat.not_lt_zero _)
    | succ n ih => intro a1 a2 a3 h hI ls hl; exact body a1 a2 a3 hI (fun b1 b2 b3 hI2 hm ls hl => ih b1 b2 b3 (by omega) hI2 ls hl) ls hl
  exact key (μ a1 a2 a3 + 1) a1 a2 a3 (Nat.lt_succ_self _) h0 ls hl
theorem zr_hloop3 {A1 A2 A3 : Type} {nL : Nat} {A0 : Nat → Prop} {H0 : Heap} (I : A1 → A2 → A3 → Heap → Prop) (μ : A1 → A2 → A3 → Nat) (lv : A1 → A2 → A3 → List (Nat × Value)) (body : ∀ (a1 : A1) (a2 : A2) (a3 : A3) (H : Heap) (locs : List Loc), I a1 a2 a3 H → va_S A0 H0 H locs → (∀ (b1 : A1) (b2 : A2) (b3 : A3) (H1 : Heap) (locs1 : List Loc), I b1 b2 b3 H1 → va_S A0 H0 H1 locs1 → μ b1 b2 b3 < μ a1 a2 a3 → ∀ ls : Array Slot, lv_has ls nL (lv b1 b2 b3) → W p l e R s m args below meth c H1 locs1 cells slots Q (F0 m pc ls [])) → ∀ ls : Array Slot, lv_has ls nL (lv a1 a2 a3) → W p l e R s m args below meth c H locs cells slots Q (F0 m pc ls [])) (a1 : A1) (a2 : A2) (a3 : A3) (h0 : I a1 a2 a3 H) (hS : va_S A0 H0 H locs) (hl : lv_has ls nL (lv a1 a2 a3)) : W p l e R s m args below meth c H locs cells slots Q (F0 m pc ls []) := by
  have key : ∀ (n : Nat) (a1 : A1) (a2 : A2) (a3 : A3) (H : Heap) (locs : List Loc), μ a1 a2 a3 < n → I a1 a2 a3 H → va_S A0 H0 H locs → ∀ ls : Array Slot, lv_has ls nL (lv a1 a2 a3) → W p l e R s m args below meth c H locs cells slots Q (F0 m pc ls []) := by
    intro n
    induction n with
    | zero => intro a1 a2 a3 H locs h; exact absurd h (Nat.not_lt_zero _)
    | succ n ih => intro a1 a2 a3 H locs h hI hS ls hl; exact body a1 a2 a3 H locs hI hS (fun b1 b2 b3 H1 locs1 hI2 hS1 hm ls hl => ih b1 b2 b3 H1 locs1 (by omega) hI2 hS1 ls hl) ls hl
  exact key (μ a1 a2 a3 + 1) a1 a2 a3 H locs (Nat.lt_succ_self _) h0 hS ls hl
theorem zr_loop4 {A1 A2 A3 A4 : Type} {nL : Nat} (I : A1 → A2 → A3 → A4 → Prop) (μ : A1 → A2 → A3 → A4 → Nat) (lv : A1 → A2 → A3 → A4 → List (Nat × Value)) (body : ∀ (a1 : A1) (a2 : A2) (a3 : A3) (a4 : A4), I a1 a2 a3 a4 → (∀ (b1 : A1) (b2 : A2) (b3 : A3) (b4 : A4), I b1 b2 b3 b4 → μ b1 b2 b3 b4 < μ a1 a2 a3 a4 → ∀ ls : Array Slot, lv_has ls nL (lv b1 b2 b3 b4) → W p l e R s m args below meth c H locs cells slots Q (F0 m pc ls [])) → ∀ ls : Array Slot, lv_has ls nL (lv a1 a2 a3 a4) → W p l e R s m args below meth c H locs cells slots Q (F0 m pc ls [])) (a1 : A1) (a2 : A2) (a3 : A3) (a4 : A4) (h0 : I a1 a2 a3 a4) (hl : lv_has ls nL (lv a1 a2 a3 a4)) : W p l e R s m args below meth c H locs cells slots Q (F0 m pc ls []) := by
  have key : ∀ (n : Nat) (a1 : A1) (a2 : A2) (a3 : A3) (a4 : A4), μ a1 a2 a3 a4 < n → I a1 a2 a3 a4 → ∀ ls : Array Slot, lv_has ls nL (lv a1 a2 a3 a4) → W p l e R s m args below meth c H locs cells slots Q (F0 m pc ls []) := by
    intro n
    induction n with
    | zero => intro a1 a2 a3 a4 h; exact absurd h (Nat.not_lt_zero _)
    | succ n ih => intro a1 a2 a3 a4 h hI ls hl; exact body a1 a2 a3 a4 hI (fun b1 b2 b3 b4 hI2 hm ls hl => ih b1 b2 b3 b4 (by omega) hI2 ls hl) ls hl
  exact key (μ a1 a2 a3 a4 + 1) a1 a2 a3 a4 (Nat.lt_succ_self _) h0 ls hl
theorem zr_hloop4 {A1 A2 A3 A4 : Type} {nL : Nat} {A0 : Nat → Prop} {H0 : Heap} (I : A1 → A2 → A3 → A4 → Heap → Prop) (μ : A1 → A2 → A3 → A4 → Nat) (lv : A1 → A2 → A3 → A4 → List (Nat × Value)) (body : ∀ (a1 : A1) (a2 : A2) (a3 : A3) (a4 : A4) (H : Heap) (locs : List Loc), I a1 a2 a3 a4 H → va_S A0 H0 H locs → (∀ (b1 : A1) (b2 : A2) (b3 : A3) (b4 : A4) (H1 : Heap) (locs1 : List Loc), I b1 b2 b3 b4 H1 → va_S A0 H0 H1 locs1 → μ b1 b2 b3 b4 < μ a1 a2 a3 a4 → ∀ ls : Array Slot, lv_has ls nL (lv b1 b2 b3 b4) → W p l e R s m args below meth c H1 locs1 cells slots Q (F0 m pc ls [])) → ∀ ls : Array Slot, lv_has ls nL (lv a1 a2 a3 a4) → W p l e R s m args below meth c H locs cells slots Q (F0 m pc ls [])) (a1 : A1) (a2 : A2) (a3 : A3) (a4 : A4) (h0 : I a1 a2 a3 a4 H) (hS : va_S A0 H0 H locs) (hl : lv_has ls nL (lv a1 a2 a3 a4)) : W p l e R s m args below meth c H locs cells slots Q (F0 m pc ls []) := by
  have key : ∀ (n : Nat) (a1 : A1) (a2 : A2) (a3 : A3) (a4 : A4) (H : Heap) (locs : List Loc), μ a1 a2 a3 a4 < n → I a1 a2 a3 a4 H → va_S A0 H0 H locs → ∀ ls : Array Slot, lv_has ls nL (lv a1 a2 a3 a4) → W p l e R s m args below meth c H locs cells slots Q (F0 m pc ls []) := by
    intro n
    induction n with
    | zero => intro a1 a2 a3 a4 H locs h; exact absurd h (Nat.not_lt_zero _)
    | succ n ih => intro a1 a2 a3 a4 H locs h hI hS ls hl; exact body a1 a2 a3 a4 H locs hI hS (fun b1 b2 b3 b4 H1 locs1 hI2 hS1 hm ls hl => ih b1 b2 b3 b4 H1 locs1 (by omega) hI2 hS1 ls hl) ls hl
  exact key (μ a1 a2 a3 a4 + 1) a1 a2 a3 a4 H locs (Nat.lt_succ_self _) h0 hS ls hl
theorem zr_loop5 {A1 A2 A3 A4 A5 : Type} {nL : Nat} (I : A1 → A2 → A3 → A4 → A5 → Prop) (μ : A1 → A2 → A3 → A4 → A5 → Nat) (lv : A1 → A2 → A3 → A4 → A5 → List (Nat × Value)) (body : ∀ (a1 : A1) (a2 : A2) (a3 : A3) (a4 : A4) (a5 : A5), I a1 a2 a3 a4 a5 → (∀ (b1 : A1) (b2 : A2) (b3 : A3) (b4 : A4) (b5 : A5), I b1 b2 b3 b4 b5 → μ b1 b2 b3 b4 b5 < μ a1 a2 a3 a4 a5 → ∀ ls : Array Slot, lv_has ls nL (lv b1 b2 b3 b4 b5) → W p l e R s m args below meth c H locs cells slots Q (F0 m pc ls [])) → ∀ ls : Array Slot, lv_has ls nL (lv a1 a2 a3 a4 a5) → W p l e R s m args below meth c H locs cells slots Q (F0 m pc ls [])) (a1 : A1) (a2 : A2) (a3 : A3) (a4 : A4) (a5 : A5) (h0 : I a1 a2 a3 a4 a5) (hl : lv_has ls nL (lv a1 a2 a3 a4 a5)) : W p l e R s m args below meth c H locs cells slots Q (F0 m pc ls []) := by
  have key : ∀ (n : Nat) (a1 : A1) (a2 : A2) (a3 : A3) (a4 : A4) (a5 : A5), μ a1 a2 a3 a4 a5 < n → I a1 a2 a3 a4 a5 → ∀ ls : Array Slot, lv_has ls nL (lv a1 a2 a3 a4 a5) → W p l e R s m args below meth c H locs cells slots Q (F0 m pc ls []) := by
    intro n
    induction n with
    | zero => intro a1 a2 a3 a4 a5 h; exact absurd h (Nat.not_lt_zero _)
    | succ n ih => intro a1 a2 a3 a4 a5 h hI ls hl; exact body a1 a2 a3 a4 a5 hI (fun b1 b2 b3 b4 b5 hI2 hm ls hl => ih b1 b2 b3 b4 b5 (by omega) hI2 ls hl) ls hl
  exact key (μ a1 a2 a3 a4 a5 + 1) a1 a2 a3 a4 a5 (Nat.lt_succ_self _) h0 ls hl
theorem zr_hloop5 {A1 A2 A3 A4 A5 : Type} {nL : Nat} {A0 : Nat → Prop} {H0 : Heap} (I : A1 → A2 → A3 → A4 → A5 → Heap → Prop) (μ : A1 → A2 → A3 → A4 → A5 → Nat) (lv : A1 → A2 → A3 → A4 → A5 → List (Nat × Value)) (body : ∀ (a1 : A1) (a2 : A2) (a3 : A3) (a4 : A4) (a5 : A5) (H : Heap) (locs : List Loc), I a1 a2 a3 a4 a5 H → va_S A0 H0 H locs → (∀ (b1 : A1) (b2 : A2) (b3 : A3) (b4 : A4) (b5 : A5) (H1 : Heap) (locs1 : List Loc), I b1 b2 b3 b4 b5 H1 → va_S A0 H0 H1 locs1 → μ b1 b2 b3 b4 b5 < μ a1 a2 a3 a4 a5 → ∀ ls : Array Slot, lv_has ls nL (lv b1 b2 b3 b4 b5) → W p l e R s m args below meth c H1 locs1 cells slots Q (F0 m pc ls [])) → ∀ ls : Array Slot, lv_has ls nL (lv a1 a2 a3 a4 a5) → W p l e R s m args below meth c H locs cells slots Q (F0 m pc ls [])) (a1 : A1) (a2 : A2) (a3 : A3) (a4 : A4) (a5 : A5) (h0 : I a1 a2 a3 a4 a5 H) (hS : va_S A0 H0 H locs) (hl : lv_has ls nL (lv a1 a2 a3 a4 a5)) : W p l e R s m args below meth c H locs cells slots Q (F0 m pc ls []) := by
  have key : ∀ (n : Nat) (a1 : A1) (a2 : A2) (a3 : A3) (a4 : A4) (a5 : A5) (H : Heap) (locs : List Loc), μ a1 a2 a3 a4 a5 < n → I a1 a2 a3 a4 a5 H → va_S A0 H0 H locs → ∀ ls : Array Slot, lv_has ls nL (lv a1 a2 a3 a4 a5) → W p l e R s m args below meth c H locs cells slots Q (F0 m pc ls []) := by
    intro n
    induction n with
    | zero => intro a1 a2 a3 a4 a5 H locs h; exact absurd h (Nat.not_lt_zero _)
    | succ n ih => intro a1 a2 a3 a4 a5 H locs h hI hS ls hl; exact body a1 a2 a3 a4 a5 H locs hI hS (fun b1 b2 b3 b4 b5 H1 locs1 hI2 hS1 hm ls hl => ih b1 b2 b3 b4 b5 H1 locs1 (by omega) hI2 hS1 ls hl) ls hl
  exact key (μ a1 a2 a3 a4 a5 + 1) a1 a2 a3 a4 a5 H locs (Nat.lt_succ_self _) h0 hS ls hl
theorem zr_cut0 {nL pc2 : Nat} (I : Prop) (lv : List (Nat × Value)) (stk : List Value) (J : (I  → ∀ ls : Array Slot, lv_has ls nL lv → W p l e R s m args below meth c H locs cells slots Q (F0 m pc2 ls stk))) (k : (I  → ∀ ls : Array Slot, lv_has ls nL lv → W p l e R s m args below meth c H locs cells slots Q (F0 m pc2 ls stk)) → W p l e R s m args below meth c H locs cells slots Q (F0 m pc ls rest)) : W p l e R s m args below meth c H locs cells slots Q (F0 m pc ls rest) := k J
theorem zr_cut0h {nL pc2 : Nat} {A0 : Nat → Prop} {H0 : Heap} (I : Heap → Prop) (lv : List (Nat × Value)) (stk : List Value) (J : (∀ (H : Heap) (locs : List Loc), I  H → va_S A0 H0 H locs → ∀ ls : Array Slot, lv_has ls nL lv → W p l e R s m args below meth c H locs cells slots Q (F0 m pc2 ls stk))) (k : (∀ (H : Heap) (locs : List Loc), I  H → va_S A0 H0 H locs → ∀ ls : Array Slot, lv_has ls nL lv → W p l e R s m args below meth c H locs cells slots Q (F0 m pc2 ls stk)) → W p l e R s m args below meth c H locs cells slots Q (F0 m pc ls rest)) : W p l e R s m args below meth c H locs cells slots Q (F0 m pc ls rest) := k J
theorem zr_cut1 {A1 : Type} {nL pc2 : Nat} (I : A1 → Prop) (lv : A1 → List (Nat × Value)) (stk : A1 → List Value) (J : (∀ (a1 : A1), I a1 → ∀ ls : Array Slot, lv_has ls nL (lv a1) → W p l e R s m args below meth c H locs cells slots Q (F0 m pc2 ls (stk a1)))) (k : (∀ (a1 : A1), I a1 → ∀ ls : Array Slot, lv_has ls nL (lv a1) → W p l e R s m args below meth c H locs cells slots Q (F0 m pc2 ls (stk a1))) → W p l e R s m args below meth c H locs cells slots Q (F0 m pc ls rest)) : W p l e R s m args below meth c H locs cells slots Q (F0 m pc ls rest) := k J
theorem zr_cut1h {A1 : Type} {nL pc2 : Nat} {A0 : Nat → Prop} {H0 : Heap} (I : A1 → Heap → Prop) (lv : A1 → List (Nat × Value)) (stk : A1 → List Value) (J : (∀ (a1 : A1) (H : Heap) (locs : List Loc), I a1 H → va_S A0 H0 H locs → ∀ ls : Array Slot, lv_has ls nL (lv a1) → W p l e R s m args below meth c H locs cells slots Q (F0 m pc2 ls (stk a1)))) (k : (∀ (a1 : A1) (H : Heap) (locs : List Loc), I a1 H → va_S A0 H0 H locs → ∀ ls : Array Slot, lv_has ls nL (lv a1) → W p l e R s m args below meth c H locs cells slots Q (F0 m pc2 ls (stk a1))) → W p l e R s m args below meth c H locs cells slots Q (F0 m pc ls rest)) : W p l e R s m args below meth c H locs cells slots Q (F0 m pc ls rest) := k J
theorem zr_cut2 {A1 A2 : Type} {nL pc2 : Nat} (I : A1 → A2 → Prop) (lv : A1 → A2 → List (Nat × Value)) (stk : A1 → A2 → List Value) (J : (∀ (a1 : A1) (a2 : A2), I a1 a2 → ∀ ls : Array Slot, lv_has ls nL (lv a1 a2) → W p l e R s m args below meth c H locs cells slots Q (F0 m pc2 ls (stk a1 a2)))) (k : (∀ (a1 : A1) (a2 : A2), I a1 a2 → ∀ ls : Array Slot, lv_has ls nL (lv a1 a2) → W p l e R s m args below meth c H locs cells slots Q (F0 m pc2 ls (stk a1 a2))) → W p l e R s m args below meth c H locs cells slots Q (F0 m pc ls rest)) : W p l e R s m args below meth c H locs cells slots Q (F0 m pc ls rest) := k J
theorem zr_cut2h {A1 A2 : Type} {nL pc2 : Nat} {A0 : Nat → Prop} {H0 : Heap} (I : A1 → A2 → Heap → Prop) (lv : A1 → A2 → List (Nat × Value)) (stk : A1 → A2 → List Value) (J : (∀ (a1 : A1) (a2 : A2) (H : Heap) (locs : List Loc), I a1 a2 H → va_S A0 H0 H locs → ∀ ls : Array Slot, lv_has ls nL (lv a1 a2) → W p l e R s m args below meth c H locs cells slots Q (F0 m pc2 ls (stk a1 a2)))) (k : (∀ (a1 : A1) (a2 : A2) (H : Heap) (locs : List Loc), I a1 a2 H → va_S A0 H0 H locs → ∀ ls : Array Slot, lv_has ls nL (lv a1 a2) → W p l e R s m args below meth c H locs cells slots Q (F0 m pc2 ls (stk a1 a2))) → W p l e R s m args below meth c H locs cells slots Q (F0 m pc ls rest)) : W p l e R s m args below meth c H locs cells slots Q (F0 m pc ls rest) := k J
theorem zr_cut3 {A1 A2 A3 : Type} {nL pc2 : Nat} (I : A1 → A2 → A3 → Prop) (lv : A1 → A2 → A3 → List (Nat × Value)) (stk : A1 → A2 → A3 → List Value) (J : (∀ (a1 : A1) (a2 : A2) (a3 : A3), I a1 a2 a3 → ∀ ls : Array Slot, lv_has ls nL (lv a1 a2 a3) → W p l e R s m args below meth c H locs cells slots Q (F0 m pc2 ls (stk a1 a2 a3)))) (k : (∀ (a1 : A1) (a2 : A2) (a3 : A3), I a1 a2 a3 → ∀ ls : Array Slot, lv_has ls nL (lv a1 a2 a3) → W p l e R s m args below meth c H locs cells slots Q (F0 m pc2 ls (stk a1 a2 a3))) → W p l e R s m args below meth c H locs cells slots Q (F0 m pc ls rest)) : W p l e R s m args below meth c H locs cells slots Q (F0 m pc ls rest) := k J
theorem zr_cut3h {A1 A2 A3 : Type} {nL pc2 : Nat} {A0 : Nat → Prop} {H0 : Heap} (I : A1 → A2 → A3 → Heap → Prop) (lv : A1 → A2 → A3 → List (Nat × Value)) (stk : A1 → A2 → A3 → List Value) (J : (∀ (a1 : A1) (a2 : A2) (a3 : A3) (H : Heap) (locs : List Loc), I a1 a2 a3 H → va_S A0 H0 H locs → ∀ ls : Array Slot, lv_has ls nL (lv a1 a2 a3) → W p l e R s m args below meth c H locs cells slots Q (F0 m pc2 ls (stk a1 a2 a3)))) (k : (∀ (a1 : A1) (a2 : A2) (a3 : A3) (H : Heap) (locs : List Loc), I a1 a2 a3 H → va_S A0 H0 H locs → ∀ ls : Array Slot, lv_has ls nL (lv a1 a2 a3) → W p l e R s m args below meth c H locs cells slots Q (F0 m pc2 ls (stk a1 a2 a3))) → W p l e R s m args below meth c H locs cells slots Q (F0 m pc ls rest)) : W p l e R s m args below meth c H locs cells slots Q (F0 m pc ls rest) := k J
theorem zr_cut4 {A1 A2 A3 A4 : Type} {nL pc2 : Nat} (I : A1 → A2 → A3 → A4 → Prop) (lv : A1 → A2 → A3 → A4 → List (Nat × Value)) (stk : A1 → A2 → A3 → A4 → List Value) (J : (∀ (a1 : A1) (a2 : A2) (a3 : A3) (a4 : A4), I a1 a2 a3 a4 → ∀ ls : Array Slot, lv_has ls nL (lv a1 a2 a3 a4) → W p l e R s m args below meth c H locs cells slots Q (F0 m pc2 ls (stk a1 a2 a3 a4)))) (k : (∀ (a1 : A1) (a2 : A2) (a3 : A3) (a4 : A4), I a1 a2 a3 a4 → ∀ ls : Array Slot, lv_has ls nL (lv a1 a2 a3 a4) → W p l e R s m args below meth c H locs cells slots Q (F0 m pc2 ls (stk a1 a2 a3 a4))) → W p l e R s m args below meth c H locs cells slots Q (F0 m pc ls rest)) : W p l e R s m args below meth c H locs cells slots Q (F0 m pc ls rest) := k J
theorem zr_cut4h {A1 A2 A3 A4 : Type} {nL pc2 : Nat} {A0 : Nat → Prop} {H0 : Heap} (I : A1 → A2 → A3 → A4 → Heap → Prop) (lv : A1 → A2 → A3 → A4 → List (Nat × Value)) (stk : A1 → A2 → A3 → A4 → List Value) (J : (∀ (a1 : A1) (a2 : A2) (a3 : A3) (a4 : A4) (H : Heap) (locs : List Loc), I a1 a2 a3 a4 H → va_S A0 H0 H locs → ∀ ls : Array Slot, lv_has ls nL (lv a1 a2 a3 a4) → W p l e R s m args below meth c H locs cells slots Q (F0 m pc2 ls (stk a1 a2 a3 a4)))) (k : (∀ (a1 : A1) (a2 : A2) (a3 : A3) (a4 : A4) (H : Heap) (locs : List Loc), I a1 a2 a3 a4 H → va_S A0 H0 H locs → ∀ ls : Array Slot, lv_has ls nL (lv a1 a2 a3 a4) → W p l e R s m args below meth c H locs cells slots Q (F0 m pc2 ls (stk a1 a2 a3 a4))) → W p l e R s m args below meth c H locs cells slots Q (F0 m pc ls rest)) : W p l e R s m args below meth c H locs cells slots Q (F0 m pc ls rest) := k J
theorem zr_cut5 {A1 A2 A3 A4 A5 : Type} {nL pc2 : Nat} (I : A1 → A2 → A3 → A4 → A5 → Prop) (lv : A1 → A2 → A3 → A4 → A5 → List (Nat × Value)) (stk : A1 → A2 → A3 → A4 → A5 → List Value) (J : (∀ (a1 : A1) (a2 : A2) (a3 : A3) (a4 : A4) (a5 : A5), I a1 a2 a3 a4 a5 → ∀ ls : Array Slot, lv_has ls nL (lv a1 a2 a3 a4 a5) → W p l e R s m args below meth c H locs cells slots Q (F0 m pc2 ls (stk a1 a2 a3 a4 a5)))) (k : (∀ (a1 : A1) (a2 : A2) (a3 : A3) (a4 : A4) (a5 : A5), I a1 a2 a3 a4 a5 → ∀ ls : Array Slot, lv_has ls nL (lv a1 a2 a3 a4 a5) → W p l e R s m args below meth c H locs cells slots Q (F0 m pc2 ls (stk a1 a2 a3 a4 a5))) → W p l e R s m args below meth c H locs cells slots Q (F0 m pc ls rest)) : W p l e R s m args below meth c H locs cells slots Q (F0 m pc ls rest) := k J
theorem zr_cut5h {A1 A2 A3 A4 A5 : Type} {nL pc2 : Nat} {A0 : Nat → Prop} {H0 : Heap} (I : A1 → A2 → A3 → A4 → A5 → Heap → Prop) (lv : A1 → A2 → A3 → A4 → A5 → List (Nat × Value)) (stk : A1 → A2 → A3 → A4 → A5 → List Value) (J : (∀ (a1 : A1) (a2 : A2) (a3 : A3) (a4 : A4) (a5 : A5) (H : Heap) (locs : List Loc), I a1 a2 a3 a4 a5 H → va_S A0 H0 H locs → ∀ ls : Array Slot, lv_has ls nL (lv a1 a2 a3 a4 a5) → W p l e R s m args below meth c H locs cells slots Q (F0 m pc2 ls (stk a1 a2 a3 a4 a5)))) (k : (∀ (a1 : A1) (a2 : A2) (a3 : A3) (a4 : A4) (a5 : A5) (H : Heap) (locs : List Loc), I a1 a2 a3 a4 a5 H → va_S A0 H0 H locs → ∀ ls : Array Slot, lv_has ls nL (lv a1 a2 a3 a4 a5) → W p l e R s m args below meth c H locs cells slots Q (F0 m pc2 ls (stk a1 a2 a3 a4 a5))) → W p l e R s m args below meth c H locs cells slots Q (F0 m pc ls rest)) : W p l e R s m args below meth c H locs cells slots Q (F0 m pc ls rest) := k J
end ZX
