/-! rows that the law needs: a method that answers a long, rests, a long held against itself, words of the script's ints -/
abbrev zMl (l : Launch) (y : MethodName) (ws : List Cond) (rm : Room) (D : va_G) (cI cT : ClassId) (av : List Value) (F : State → Heap → Prop) (post : Int64 → Prop) : Prop := Met l y ws rm (va_Pc av (fun U => zK D cI cT U ∧ F U U.heap)) (vp_Sl post) 0 0 (fun _ => False)
theorem zt_r (x : Int32) : -2147483648 ≤ x.toInt ∧ x.toInt ≤ 2147483647 := ⟨by have := Int32.le_toInt x; omega, by have := Int32.toInt_lt x; omega⟩
theorem zt_z (x : Int32) : zI x.toInt = x := Int32.ofInt_toInt x
def wz (a : Int) : Int := (zI a).toInt
theorem wz_r (a : Int) : -2147483648 ≤ wz a ∧ wz a ≤ 2147483647 := zt_r _
theorem wz_z (a : Int) : zI (wz a) = zI a := zt_z _
section ZR7
variable {p : Program} {l : Launch} {e : Env} {R : Room} {s : State} {m : MethodId} {args : Array Value} {below : List Frame} {meth : Method} {c : Code} {H : Heap} {locs : List Loc} {cells slots : Nat} {Q : State → Prop}
variable {cc : ByteArray} {pc : Nat} {ls : Array Slot} {rest st As : List Value} {D : va_G} {cI cT : ClassId} {Ts : List Cond} {own C host : String} {nL index n maxL : Nat} {y : MethodName} {bytes : ByteArray} {ret : Option FieldType} {ws : List Cond} {rm : Room} {b sz : Nat} {F : State → Heap → Prop} {post : Int64 → Prop}
theorem zr_rl (hr : va_Run p l e R s m args below meth c H locs cells slots 0 0 (F0 m pc ls st) rest (vp_Sl post As.toArray) (fun _ => False))
    (kk : ∀ r : Int64, post r → W p l e R s m args below meth c H locs cells slots Q (F0 m (pc + 3) ls (.long r :: rest))) : W p l e R s m args below meth c H locs cells slots Q (F0 m pc ls st) := by
  intro T hT X
  obtain ⟨v, st₀, t, T', L, h0, X', hL, e1, e2, ⟨r, hv, hp, hh⟩, st⟩ := hr T hT X
  cases hv
  obtain ⟨t2, a1, b1⟩ := kk r hp T' (by rw [e1, hh, h0]) (Stand.forget X' (fun q h => (hL q h).elim))
  exact ⟨t2, st t2 a1, b1⟩
theorem zr_sl (S : CallFix p m c cc nL s args Ts own) (hM : zMl l y ws rm D cI cT As F post) (cw : CallB R s args own index y bytes maxL ret ws rm 0 0 n ∧ (Cond.static y).before args s = true) (hst : zStab F) (hK : zK D cI cT s) (hF : F s H)
    (hn : As.length = n) (hsize : ls.size = nL) (hs : st = As.reverse ++ rest) (hcat : (rest.map fun v => v.category).sum ≤ 8) (hdg : decode cc pc = .ok (.invokestatic index, 3)) (hf : cells + 0 ≤ R.cells ∧ slots + 0 ≤ R.slots)
    (kk : ∀ r : Int64, post r → W p l e R s m args below meth c H locs cells slots Q (F0 m (pc + 3) ls (.long r :: rest))) : W p l e R s m args below meth c H locs cells slots Q (F0 m pc ls st) :=
  zr_rl (As := As) (va_runS (rest := rest) S hM cw (zr_pr hst hK hF) rfl hn hsize hs (lv_room hcat) hdg hf) kk
theorem zr_i2lw (hx : p.tables.exec = Jvm.exec) (hb : c.code = cc) {a : Int} (hdg : decode cc pc = .ok (.i2l, 1))
    (k : W p l e R s m args below meth c H locs cells slots Q (F0 m (pc + 1) ls (.long (zL (wz a)) :: rest))) : W p l e R s m args below meth c H locs cells slots Q (F0 m pc ls (.int (zI a) :: rest)) := by
  have h := zr_i2l hx hb hdg (wz_r a) k
  rw [wz_z] at h
  exact h
theorem zr_irem (hx : p.tables.exec = Jvm.exec) (hb : c.code = cc) {a b d : Int} (hdg : decode cc pc = .ok (.irem, 1)) (hd : ¬ zI b = 0 ∧ zI a - zI a / zI b * zI b = zI d)
    (k : W p l e R s m args below meth c H locs cells slots Q (F0 m (pc + 1) ls (.int (zI d) :: rest))) : W p l e R s m args below meth c H locs cells slots Q (F0 m pc ls (.int (zI b) :: .int (zI a) :: rest)) := by
  refine lv_irem hx hb hdg hd.1 ?_
  rw [hd.2]
  exact k
theorem zr_lcmp_s (hx : p.tables.exec = Jvm.exec) (hb : c.code = cc) {v : Int64} (hdg : decode cc pc = .ok (.lcmp, 1))
    (k : W p l e R s m args below meth c H locs cells slots Q (F0 m (pc + 1) ls (.int (zI 0) :: rest))) : W p l e R s m args below meth c H locs cells slots Q (F0 m pc ls (.long v :: .long v :: rest)) := by
  refine W.lcmp hx hb hdg ?_
  have e1 : lg_cmp v v = 0 := by simp [lg_cmp]
  rw [e1]
  exact k
end ZR7
theorem zi_irem {a b : Int} (ha : 0 ≤ a ∧ a ≤ 2147483647) (hb : 0 < b ∧ b ≤ 2147483647) : ¬ zI b = 0 ∧ zI a - zI a / zI b * zI b = zI (a % b) := by
  have h := zi_tdiv (a := a) (b := b) ⟨by omega, ha.2⟩ hb
  refine ⟨h.1, ?_⟩
  rw [h.2, Int.tdiv_eq_ediv_of_nonneg ha.1, zi_mul, zi_sub]
  congr 1
  rw [Int.emod_def, Int.mul_comm]
def rmn (a b : Int) : Int := (zI a - zI a / zI b * zI b).toInt
theorem zi_rmn {a b : Int} (hb : ¬ zI b = 0) : ¬ zI b = 0 ∧ zI a - zI a / zI b * zI b = zI (rmn a b) := ⟨hb, (zt_z _).symm⟩
def shr (a k : Int) : Int := (zI a >>> (zI k &&& 31)).toInt
theorem zi_sr (a k : Int) : zI a >>> (zI k &&& 31) = zI (shr a k) := (zt_z _).symm
def nd (a k : Int) : Int := (zI a &&& zI k).toInt
theorem zi_nd (a k : Int) : zI a &&& zI k = zI (nd a k) := (zt_z _).symm
theorem nd_bd (x : Int) (n : Nat) (hn : n ≤ 31) {k : Int} (hk : (zI k).toBitVec.toNat = 2 ^ n - 1) : 0 ≤ nd x k ∧ nd x k ≤ ((2 ^ n - 1 : Nat) : Int) := by
  unfold nd
  have hp : 2 ^ n ≤ 2 ^ 31 := Nat.pow_le_pow_right (by decide) hn
  have hp0 : 0 < 2 ^ n := Nat.two_pow_pos n
  have h3 : (zI x).toBitVec.toNat % 2 ^ n < 2 ^ n := Nat.mod_lt _ hp0
  have h4 : ((zI x).toBitVec &&& (zI k).toBitVec).toNat = (zI x).toBitVec.toNat % 2 ^ n := by
    rw [BitVec.toNat_and, hk, Nat.and_two_pow_sub_one_eq_mod]
  have e : (zI x &&& zI k).toInt = (((zI x).toBitVec.toNat % 2 ^ n : Nat) : Int) := by
    rw [show (zI x &&& zI k).toInt = ((zI x &&& zI k).toBitVec).toInt from rfl, Int32.toBitVec_and, BitVec.toInt_eq_toNat_of_lt (by omega), h4]
  rw [e]
  omega
theorem nd_31 (x : Int) : 0 ≤ nd x 2147483647 ∧ nd x 2147483647 ≤ 2147483647 := by
  have h := nd_bd x 31 (by decide) (k := 2147483647) (by decide +kernel)
  exact ⟨h.1, Int.le_trans h.2 (by decide +kernel)⟩
theorem nd_15 (x : Int) : 0 ≤ nd x 15 ∧ nd x 15 ≤ 15 := by
  have h := nd_bd x 4 (by decide) (k := 15) (by decide +kernel)
  exact ⟨h.1, Int.le_trans h.2 (by decide +kernel)⟩
/-- the law's own 'low' -/
def lw (v n : Int) : Int := nd v 2147483647 % n
theorem lw_bd {v n : Int} (h : 1 ≤ n) : 0 ≤ lw v n ∧ lw v n < n := ⟨Int.emod_nonneg _ (by omega), Int.emod_lt_of_pos _ (by omega)⟩
