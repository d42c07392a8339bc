/-! the class's three text constants: Strings below the address bs; rows for their methods -/
def zSo (bs q t : Nat) (wl : List Int) (U : State) (H : Heap) : Prop :=
  va_O "java/lang/String" q (fun a => bs ≤ a) U H ∧ va_OF "java/lang/String" "coder" "B" (.int (zI 0)) q (fun a => bs ≤ a) U H ∧ va_OF "java/lang/String" "value" "[B" (.ref t) q (fun a => bs ≤ a) U H ∧ va_T .byte t wl.length (fun j => .int (zI (wl.getD j 0))) (fun a => bs ≤ a) U H ∧
  va_Z "java/lang/String" "COMPACT_STRINGS" "Z" (.int (zI 1)) (fun a => bs ≤ a) U H ∧ va_Zq "jdk/internal/util/Preconditions" "SIOOBE_FORMATTER" "Ljava/util/function/BiFunction;" (fun a => bs ≤ a) U H
theorem zSo.moved {bs q t : Nat} {wl : List Int} {u U : State} {H : Heap} (hv : u.vm.Alike U.vm) (h : zSo bs q t wl u H) : zSo bs q t wl U H :=
  ⟨va_O.moved hv h.1, va_OF.moved hv h.2.1, va_OF.moved hv h.2.2.1, va_T.moved hv h.2.2.2.1, va_Z.moved hv h.2.2.2.2.1, va_Zq.moved hv h.2.2.2.2.2⟩
theorem zSo.kept {bs q t : Nat} {wl : List Int} {U : State} {H H1 : Heap} (h : zSo bs q t wl U H) (hk : ∀ a : Nat, a < H.size → ¬ bs ≤ a → H1[a]? = H[a]?) : zSo bs q t wl U H1 :=
  ⟨h.1.kept hk, h.2.1.kept hk, h.2.2.1.kept hk, h.2.2.2.1.kept hk, h.2.2.2.2.1.kept hk, h.2.2.2.2.2.kept hk⟩
theorem zs_So {bs q t : Nat} {wl : List Int} : zStab (fun U H => zSo bs q t wl U H) := fun _ _ _ hv h => h.moved hv
theorem zs_SoG {bs q t : Nat} {wl : List Int} {G : Heap → Prop} : zStab (fun U H => G H ∧ zSo bs q t wl U H) := fun _ _ _ hv h => ⟨h.1, h.2.moved hv⟩
theorem zSo_recv {bs q t : Nat} {wl : List Int} {U : State} {H : Heap} (h : zSo bs q t wl U H) : ∃ cell : Cell, H[q]? = some cell ∧ cell.vm.isStatics = false ∧ U.vm.findClass "java/lang/String" = some cell.cls := by
  obtain ⟨cell, h1, h2, h3, -⟩ := h.1
  exact ⟨cell, h1, h2, h3⟩
/-- a reader that answers nothing -/
abbrev zMu (l : Launch) (y : MethodName) (ws : List Cond) (rm : Room) (D : va_G) (cI cT : ClassId) (av : List Value) (F : State → Heap → Prop) : Prop := Met l y ws rm (va_Pc av (fun U => zK D cI cT U ∧ F U U.heap)) (va_Sv (fun _ => True)) 0 0 (fun _ => False)
section ZSR
variable {p : Program} {l : Launch} {e : Env} {R : Room} {s : State} {m : MethodId} {args : Array Value} {below : List Frame} {meth : Method} {c : Code} {H : Heap} {locs : List Loc} {cells slots : Nat} {Q : State → Prop}
variable {cc : ByteArray} {pc : Nat} {ls : Array Slot} {rest st As : List Value} {D : va_G} {cI cT : ClassId} {Ts : List Cond} {own C host : String} {nL index n maxL : Nat} {y : MethodName} {bytes : ByteArray} {ret : Option FieldType} {ws : List Cond} {rm : Room} {b : Nat} {F : State → Heap → Prop} {post : Int32 → Prop} {G : Int32 → Heap → Prop} {Gv : Heap → Prop} {A1 A0 : Nat → Prop} {H0 : Heap}
theorem zr_ru (hr : va_Run p l e R s m args below meth c H locs cells slots 0 0 (F0 m pc ls st) rest (va_Sv (fun _ => True) As.toArray) (fun _ => False))
    (kk : W p l e R s m args below meth c H locs cells slots Q (F0 m (pc + 3) ls rest)) : W p l e R s m args below meth c H locs cells slots Q (F0 m pc ls st) := by
  intro T hT X
  obtain ⟨v, st₀, t, T', L, h0, X', hL, e1, e2, ⟨hv, hp, hh⟩, st⟩ := hr T hT X
  cases hv
  obtain ⟨t2, a1, b1⟩ := kk T' (by rw [e1, hh, h0]) (Stand.forget X' (fun q h => (hL q h).elim))
  exact ⟨t2, st t2 a1, b1⟩
theorem zr_su (S : CallFix p m c cc nL s args Ts own) (hM : zMu l y ws rm D cI cT As F) (cw : CallB R s args own index y bytes maxL ret ws rm 0 0 n ∧ (Cond.static y).before args s = true) (hst : zStab F) (hK : zK D cI cT s) (hF : F s H)
    (hn : As.length = n) (hsize : ls.size = nL) (hs : st = As.reverse ++ rest) (hcat : (rest.map fun v => v.category).sum ≤ 8) (hdg : decode cc pc = .ok (.invokestatic index, 3)) (hf : cells + 0 ≤ R.cells ∧ slots + 0 ≤ R.slots)
    (kk : W p l e R s m args below meth c H locs cells slots Q (F0 m (pc + 3) ls rest)) : W p l e R s m args below meth c H locs cells slots Q (F0 m pc ls st) :=
  zr_ru (As := As) (va_runS (rest := rest) S hM cw (zr_pr hst hK hF) rfl hn hsize hs (lv_room hcat) hdg hf) kk
theorem zr_gOF (S : CallFix p m c cc nL s args Ts own) {o nf d : String} {v : Value} {q : Nat} {A : Nat → Prop} (h : va_OF o nf d v q A s H) (hl : Cond.fieldLink own index o nf d ∈ Ts) (hdg : decode cc pc = .ok (.getfield index, 3))
    (kk : W p l e R s m args below meth c H locs cells slots Q (F0 m (pc + 3) ls (v :: rest))) : W p l e R s m args below meth c H locs cells slots Q (F0 m pc ls (.ref q :: rest)) := by
  obtain ⟨cf, k, fi, f, cell, h1, h2, h3, h4, h5, h6⟩ := h
  exact W.getf S.1 S.2.1 S.2.2.2.1 (S.2.2.2.2 _ hl) h1 h2 h3 h4 (v := v) h5 rfl rfl hdg kk
theorem zr_tlen (hx : p.tables.exec = Jvm.exec) (hb : c.code = cc) {ty : FieldType} {t N : Nat} {f : Nat → Value} {A : Nat → Prop} (h : va_T ty t N f A s H) (hdg : decode cc pc = .ok (.arraylength, 1))
    (kk : W p l e R s m args below meth c H locs cells slots Q (F0 m (pc + 1) ls (.int (zI (N : Int)) :: rest))) : W p l e R s m args below meth c H locs cells slots Q (F0 m pc ls (.ref t :: rest)) := by
  obtain ⟨cell, h1, h2, h3, h4, h5, h6, h7⟩ := h
  exact W.alen hx hb h1 h2 (h5.trans (zi_nat N).symm) rfl rfl hdg kk
theorem zr_tb (hx : p.tables.exec = Jvm.exec) (hb : c.code = cc) {t : Nat} {wl : List Int} {A : Nat → Prop} {i : Int} (h : va_T .byte t wl.length (fun j => .int (zI (wl.getD j 0))) A s H) (h0 : 0 ≤ i) (h1 : i < (wl.length : Int)) (hn : (wl.length : Int) ≤ 2147483647) (hdg : decode cc pc = .ok (.baload, 1))
    (kk : W p l e R s m args below meth c H locs cells slots Q (F0 m (pc + 1) ls (.int (zI (wl.getD i.toNat 0)) :: rest))) : W p l e R s m args below meth c H locs cells slots Q (F0 m pc ls (.int (zI i) :: .ref t :: rest)) := by
  obtain ⟨cell, g1, g2, g3, g4, g5, g6, g7⟩ := h
  have e := zi_clamp h0 (by omega)
  have e2 : (zI i).toNatClampNeg = i.toNat := by omega
  refine W.bald hx hb g1 g2 g3 (fun z => zi_in h0 h1 hn (z.elim Or.inl (fun y => Or.inr (Nat.le_trans g4 y)))) ?_ rfl rfl hdg kk
  rw [e2, g6 _ (by omega)]
end ZSR
theorem zi_sh0 {n : Int} (h0 : 0 ≤ n) (h1 : n ≤ 2147483647) : zI n >>> (zI 0 &&& 31) = zI n := by
  have h := zi_shr (n := n) (k := 0) h0 h1 (by decide) (by decide)
  rw [h, show pw 0 = 1 from rfl, Int.ediv_one]
theorem zi_b255 : ∀ k : Fin 128, zI (k.val : Int) &&& zI 255 = zI (k.val : Int) := by decide +kernel
theorem zi_c128 : ∀ k : Fin 128, ((zI (k.val : Int)).toUInt32 % 65536).toInt32 = zI (k.val : Int) := by decide +kernel
theorem zi_n128 : ∀ k : Fin 128, (zI (k.val : Int)).toUInt32.toUInt16.toUInt32.toInt32 = zI (k.val : Int) := by decide +kernel
section ZCH
variable {x : Int} (h0 : 0 ≤ x) (h1 : x ≤ 127)
theorem zi_a255 (h0 : 0 ≤ x) (h1 : x ≤ 127) : zI x &&& zI 255 = zI x := by
  have h := zi_b255 ⟨x.toNat, by omega⟩
  have e : ((x.toNat : Nat) : Int) = x := by omega
  simp only [e] at h
  exact h
theorem zi_i2c (h0 : 0 ≤ x) (h1 : x ≤ 127) : ((zI x).toUInt32 % 65536).toInt32 = zI x := by
  have h := zi_c128 ⟨x.toNat, by omega⟩
  have e : ((x.toNat : Nat) : Int) = x := by omega
  simp only [e] at h
  exact h
theorem zi_char (h0 : 0 ≤ x) (h1 : x ≤ 127) : narrow .char (.int (zI x)) = .int (zI x) := by
  have h := zi_n128 ⟨x.toNat, by omega⟩
  have e : ((x.toNat : Nat) : Int) = x := by omega
  simp only [e] at h
  show Value.int ((zI x).toUInt32.toUInt16.toUInt32.toInt32) = _
  rw [h]
end ZCH
