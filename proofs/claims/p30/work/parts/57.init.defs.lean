/-! what is made: rows of arrays and objects at the end of the heap; calls of constructors -/
abbrev zMn (l : Launch) (y : MethodName) (ws : List Cond) (rm : Room) (D : va_G) (cI cT : ClassId) (av : List Value) (sz : Nat) (F : State → Heap → Prop) (G : Heap → Prop) (A : Nat → Prop) (mc ms : Nat) : Prop := Met l y ws rm (va_Pc av (fun U => U.heap.size = sz ∧ zK D cI cT U ∧ F U U.heap)) (va_Qv (fun (_ : Unit) => True) (fun (_ : Unit) t => G t.heap) A) mc ms A
section ZN
variable {p : Program} {l : Launch} {e : Env} {R : Room} {s : State} {m : MethodId} {args : Array Value} {below : List Frame} {meth : Method} {c : Code} {H : Heap} {locs : List Loc} {cells slots : Nat} {Q : State → Prop}
variable {cc : ByteArray} {pc : Nat} {ls : Array Slot} {rest st As : List Value} {D : va_G} {cI cT : ClassId} {Ts : List Cond} {own C host : String} {nL index n maxL mc ms : Nat} {y : MethodName} {bytes : ByteArray} {ws : List Cond} {rm : Room} {b sz : Nat} {F : State → Heap → Prop} {Gv : Heap → Prop} {A1 A0 : Nat → Prop} {H0 : Heap}
theorem zK_int2 (h : zK D cI cT s) {cA : ClassId} (hf : s.vm.findClass ("[" ++ (FieldType.int).toString) = some cA) : cA = cI := by
  have h2 : s.vm.findClass ("[" ++ (FieldType.int).toString) = some cI := (h.1.2 0 _ rfl).2
  exact Option.some.inj (hf.symm.trans h2)
theorem va_Sgrow {H1 : Heap} (hS : va_S A0 H0 H locs) (z : H1.size = H.size + 1) (o : ∀ q : Nat, q < H.size → H1[q]? = H[q]?) : va_S A0 H0 H1 locs := ⟨Nat.le_trans hS.1 (by omega), fun x h1 h2 => (o x (Nat.lt_of_lt_of_le h1 hS.1)).trans (hS.2.1 x h1 h2), hS.2.2⟩
theorem zr_newa {n : Nat} (hx : p.tables.exec = Jvm.exec) (hb : c.code = cc) (harr : (Cond.arrayClass .int).before args s = true) (hK : zK D cI cT s) (hS : va_S A0 H0 H locs) (hn : n ≤ 100000) (hdg : decode cc pc = .ok (.newarray .int, 2)) (hc : cells + 1 ≤ R.cells) (hs : slots + n ≤ R.slots) {a : Nat} (ha : H.size = a)
    (kk : ∀ H1 : Heap, va_at D vwCl (a, .inl (cI, n, .inl (zf (fun _ => 0)))) H1 → H1.size = a + 1 → (∀ q : Nat, q < H.size → H1[q]? = H[q]?) → va_S A0 H0 H1 locs → W p l e R s m args below meth c H1 locs (cells + 1) (slots + n) Q (F0 m (pc + 2) ls (.ref a :: rest))) : W p l e R s m args below meth c H locs cells slots Q (F0 m pc ls (.int (zI (n : Int)) :: rest)) := by
  subst ha
  have hcl := zi_clamp (a := (n : Int)) (by omega) (by omega)
  refine va_newaK hx hb (atype := .int) harr rfl hdg rfl (fun z => by have := (zi_lt (a := (n : Int)) (b := 0) (by omega) (by decide)).mp z; omega) (show (zI (n : Int)).toNatClampNeg = n by omega) (Nat.le_trans (Nat.mul_le_mul_right _ hn) (by decide)) hc hs rfl fun H1 cA e1 z1 o1 hAr hNm => ?_
  have ec : cA = cI := zK_int2 hK hNm
  subst ec
  exact kk H1 e1 z1 o1 (va_Sgrow hS z1 o1)
theorem zr_new {T : u_T} {N ci : Nat} (hx : p.tables.exec = Jvm.exec) (hb : c.code = cc) (hts : ∀ w ∈ Ts, w.before args s = true) (hin : ∀ w ∈ u_ws C T N, w ∈ Ts) (ty : Nat → FieldType) (hty : ∀ k, k < N → parseFieldDescriptor (T k).2.2.1 = some (ty k)) (hown : s.vm.findClass own = some m.cls) (hcl : (Cond.classLink own index C).before args s = true) (hinst : (Cond.instantiable C N).before args s = true) (hini : (Cond.initialized C).before args s = true)
    (hK : zK D cI cT s) (hS : va_S A0 H0 H locs) (hc : vwCl[ci]? = some (C, T, N)) (fs : List Value) (hfs : ∀ j, j < N → defaultValue (ty j) = vp_V fs j) (hcells : cells + 1 ≤ R.cells) (hslots : slots + N ≤ R.slots) (hdg : decode cc pc = .ok (.new index, 3)) {a : Nat} (ha : H.size = a)
    (kk : ∀ H1 : Heap, va_at D vwCl (a, .inr (ci, fs)) H1 → H1.size = a + 1 → (∀ q : Nat, q < H.size → H1[q]? = H[q]?) → va_S A0 H0 H1 locs → W p l e R s m args below meth c H1 locs (cells + 1) (slots + N) Q (F0 m (pc + 3) ls (.ref a :: rest))) : W p l e R s m args below meth c H locs cells slots Q (F0 m pc ls rest) := by
  subst ha
  have hKn := hK.1.1 ci _ hc
  refine W.newcK hx hb hown hcl hinst hini rfl hdg hcells hslots hKn.2.1 rfl fun H1 kC hkC e1 z1 o1 => ?_
  exact kk H1 ⟨_, hc, (u_born ty hts hin hKn hkC e1 hty).to hfs⟩ z1 o1 (va_Sgrow hS z1 o1)
theorem zr_putF (S : CallFix p m c cc nL s args Ts own) (hin2 : meth.name = "<init>") (hK : zK D cI cT s) {C : String} {T : u_T} {N ci a : Nat} {fs : List Value} {v : Value} (hO : va_at D vwCl (a, .inr (ci, fs)) H) (hc : vwCl[ci]? = some (C, T, N)) (hin : ∀ w ∈ u_ws C T N, w ∈ Ts) (ty0 : Nat → FieldType) (hty : ∀ k, k < N → parseFieldDescriptor (T k).2.2.1 = some (ty0 k)) (hnm : ∀ a, a < N → ∀ b, b < N → a ≠ b → (T a).2.1 ≠ (T b).2.1) (k : Nat) (hk : k < N) (hl : Cond.fieldLink own index (T k).1 (T k).2.1 (T k).2.2.1 ∈ Ts) (hfin : (T k).2.2.2 = true) (hdecl : (T k).1 = own) (hn : narrow (ty0 k) v = v) (hfit : fits (ty0 k) v = true) (hlen : k < fs.length)
    (hS0 : va_S A0 H0 H locs) (ha : A0 a) (hdg : decode cc pc = .ok (.putfield index, 3))
    (kk : ∀ (H1 : Heap) (locs1 : List Loc), va_at D vwCl (a, .inr (ci, fs.set k v)) H1 → H1.size = H.size → (∀ q : Nat, q < H.size → q ≠ a → H1[q]? = H[q]?) → va_S A0 H0 H1 locs1 → W p l e R s m args below meth c H1 locs1 cells slots Q (F0 m (pc + 3) ls rest)) : W p l e R s m args below meth c H locs cells slots Q (F0 m pc ls (v :: .ref a :: rest)) := by
  obtain ⟨hx, hb, hml, hown, hts⟩ := S
  have hap := va_apart (own := own) hts hin ty0 hty hnm hK.1 hc
  obtain ⟨r, h1, cell, q1, q2, q3, q4⟩ := hO
  have hr : r = (C, T, N) := Option.some.inj (h1.symm.trans hc)
  subst hr
  obtain ⟨hS, hfc, kC, hkC, hkind⟩ := hK.1.1 ci _ hc
  obtain ⟨cf, kf, fi, f, hi, hsl⟩ := hS k hk
  have hlay := hts _ (hin _ (u_in_lay hk))
  unfold u_lay at hlay
  rw [if_pos hfin] at hlay
  have hst := (u_facts hfc hkC (u_lays hts hin hk) hi).1
  have hcf : m.cls = cf := by
    obtain ⟨_, _, c', _, _, _, -, -, hf', -, -, -, hown2, -⟩ := Cond.laysFinal_spec hlay
    have e1 : c' = cf := by have := hi.symm.trans hf'; simp at this; exact this.1.symm
    rw [hdecl] at hown2
    rw [← e1]; exact Option.some.inj (hown.symm.trans hown2)
  have h6 := u_fits hfc hkC hkind (Or.inr hlay) hi (hty k hk) hn hfit
  refine W.putFinK hx hb hown (hts _ hl) hi hst hcf hin2 (by rw [q2]; exact h6) q1 q3 (by rw [hsl]; exact k2_hasslot (q4 k hk)) rfl rfl hdg fun H' e1 e2 e3 => ?_
  rw [hsl] at e1 ⊢
  exact kk H' _ ⟨_, hc, t_OB.to (V := updV (vp_V fs) k v) ⟨_, e1, q2, q3, t_set q4 hap hk v⟩ (fun j _ => vp_updV_set hlen v j)⟩ e2 (fun q _ h => e3 q h) (hS0.put e2 e3 ha)
theorem zr_anew {n : Nat} (hx : p.tables.exec = Jvm.exec) (hb : c.code = cc) (hown : s.vm.findClass own = some m.cls) (hclink : (Cond.classLink own index "CostumeStock$State").before args s = true) (hover : va_AO "CostumeStock$State" s) (hK : zK D cI cT s) (hS : va_S A0 H0 H locs) (hn : n ≤ 100000) (hdg : decode cc pc = .ok (.anewarray index, 3)) (hc : cells + 1 ≤ R.cells) (hs : slots + n ≤ R.slots) {a : Nat} (ha : H.size = a)
    (kk : ∀ H1 : Heap, va_at D vwCl (a, .inl (cT, n, .inr (.inr (.inr (.inr (fun _ => none)))))) H1 → H1.size = a + 1 → (∀ q : Nat, q < H.size → H1[q]? = H[q]?) → va_S A0 H0 H1 locs → W p l e R s m args below meth c H1 locs (cells + 1) (slots + n) Q (F0 m (pc + 3) ls (.ref a :: rest))) : W p l e R s m args below meth c H locs cells slots Q (F0 m pc ls (.int (zI (n : Int)) :: rest)) := by
  subst ha
  have hcl : (zI (n : Int)).toNatClampNeg = n := by have := zi_clamp (a := (n : Int)) (by omega) (by omega); omega
  refine W.anew hx hb hown hclink (va_AO.use hover) rfl hdg rfl (fun z => by have := (zi_lt (a := (n : Int)) (b := 0) (by omega) (by decide)).mp z; omega) (by rw [hcl]; omega) hc (by rw [hcl]; exact hs) fun cA kA comp f1 f2 f3 f4 => ?_
  rw [hcl]
  have ec : cA = cT := by
    obtain ⟨kB, comp2, g1, g2, g3, g4⟩ := (hK.1.2 1 _ rfl).2
    exact Option.some.inj (f1.symm.trans g4)
  subst ec
  have z1 : (H.push ({ cls := cA, slots := Array.replicate n .null, vm := .none } : Cell)).size = H.size + 1 := Array.size_push ..
  have o1 : ∀ q : Nat, q < H.size → (H.push ({ cls := cA, slots := Array.replicate n .null, vm := .none } : Cell))[q]? = H[q]? := fun q hq => by rw [Array.getElem?_push, if_neg (Nat.ne_of_lt hq)]
  refine kk _ ?_ z1 o1 (va_Sgrow hS z1 o1)
  show (H.push _)[H.size]? = some (vp_cell _ _)
  rw [Array.getElem?_push_size, vp_cell_q, ← arrV_new]
  rfl
theorem zr_aast (hx : p.tables.exec = Jvm.exec) (hb : c.code = cc) (hK : zK D cI cT s) {n : Nat} {f : Nat → Option Nat} {a v j : Nat} {fs : List Value} (hO : va_at D vwCl (a, .inl (cT, n, .inr (.inr (.inr (.inr f))))) H) (hv : va_at D vwCl (v, .inr (4, fs)) H) (hj : j < n) (hn : n ≤ 100000) (hS : va_S A0 H0 H locs) (ha : A0 a) (hdg : decode cc pc = .ok (.aastore, 1))
    (kk : ∀ (H1 : Heap) (locs1 : List Loc), va_at D vwCl (a, .inl (cT, n, .inr (.inr (.inr (.inr (va_up f j (some v))))))) H1 → H1.size = H.size → (∀ q : Nat, q < H.size → q ≠ a → H1[q]? = H[q]?) → va_S A0 H0 H1 locs1 → W p l e R s m args below meth c H1 locs1 cells slots Q (F0 m (pc + 1) ls rest)) : W p l e R s m args below meth c H locs cells slots Q (F0 m pc ls (.ref v :: .int (zI (j : Int)) :: .ref a :: rest)) := by
  have hcl : (zI (j : Int)).toNatClampNeg = j := by have := zi_clamp (a := (j : Int)) (by omega) (by omega); omega
  have h0 : ¬ zI (j : Int) < 0 := fun z => by have := (zi_lt (a := (j : Int)) (b := 0) (by omega) (by decide)).mp z; omega
  obtain ⟨r', hr', cellV, g1, g2, g3, -⟩ := hv
  have hcls := (hK.1.1 4 (RX4, TX4, 9) rfl).2
  obtain ⟨kA, comp, k1, k2, k3, -⟩ := (hK.1.2 1 _ rfl).2
  have hcomp : comp = D.1 4 := Option.some.inj (k3.symm.trans hcls.1)
  subst hcomp
  obtain ⟨kC, hkC, -⟩ := hcls.2
  refine W.aast hx hb hO (fun q h => by cases h) (fun h => by cases h) k1 k2 rfl hkC ⟨h0, by show _ < (arrV _ _ _).slots.size; rw [arrV_size, hcl]; exact hj⟩ g1 (fun q h => by rw [g3] at h; cases h) (by rw [g2]; exact hkC) (by rw [g2]; exact va_assign hcls) rfl rfl hdg fun H1 e z oq => ?_
  refine kk H1 _ ?_ z (fun q _ h => oq q h) (hS.put z oq ha)
  show H1[a]? = some (vp_cell _ _)
  rw [e, hcl]
  rw [vp_cell_q, vp_cell_q, arrV_store]
  congr 2
  funext q
  by_cases hq : q = j
  · subst hq
    simp [updV, va_up, va_rf]
  · simp [updV, va_up, hq]
theorem zq_ext {cA : ClassId} {n : Nat} {f g : Nat → Option Nat} {a : Nat} (h : va_at D vwCl (a, .inl (cA, n, .inr (.inr (.inr (.inr f))))) H) (e : ∀ j : Nat, j < n → f j = g j) : va_at D vwCl (a, .inl (cA, n, .inr (.inr (.inr (.inr g))))) H := by
  have h2 : H[a]? = some (vp_cell cA (n, .inr (.inr (.inr (.inr f))))) := h
  show H[a]? = some (vp_cell cA (n, .inr (.inr (.inr (.inr g)))))
  rw [h2, vp_cell_q, vp_cell_q]
  congr 1
  show ({ cls := cA, slots := Array.ofFn (n := n) (fun j : Fin n => va_rf (f j.val)), vm := .none } : Cell) = { cls := cA, slots := Array.ofFn (n := n) (fun j : Fin n => va_rf (g j.val)), vm := .none }
  have e2 : (fun j : Fin n => va_rf (f j.val)) = (fun j : Fin n => va_rf (g j.val)) := by
    funext j
    rw [e j.val j.isLt]
  rw [e2]
/-- constructors called: a nest mate's, and an open one -/
theorem zr_pn {av : List Value} (hst : zStab F) (hK : zK D cI cT s) (hF : F s H) (hz : H.size = sz) : FrameBlind (va_Pc av (fun U => U.heap.size = sz ∧ zK D cI cT U ∧ F U U.heap)) ∧ ∀ U : State, U.heap = H → s.WarmedH U.vm → va_Pc av (fun U => U.heap.size = sz ∧ zK D cI cT U ∧ F U U.heap) av.toArray U :=
  ⟨fun a U g mk q => ⟨q.1, q.2.1, zK_same rfl q.2.2.1, hst U _ _ (Vm.Alike.refl _) q.2.2.2⟩, fun U hU hW => ⟨rfl, by rw [hU]; exact hz, zK_warm hW hK, by rw [hU]; exact hst s U H hW.alike hF⟩⟩
theorem zr_iN (S : CallFix p m c cc nL s args Ts own) (hM : zMn l y ws rm D cI cT (.ref b :: As) sz F Gv A1 mc ms) (cw : va_CN R s args own index y host bytes maxL none ws rm mc ms n ∧ y.name = "<init>" ∧ (Cond.instanceMethod y).before args s = true) (hst : zStab F) (hK : zK D cI cT s) (hF : F s H) (hz : H.size = sz)
    (hS : va_S A0 H0 H locs) (hA : ∀ q, A1 q → A0 q)
    (hn : As.length = n) (hsize : ls.size = nL) (hs : st = As.reverse ++ .ref b :: rest) (hcat : (rest.map fun v => v.category).sum ≤ 8) (hdg : decode cc pc = .ok (.invokespecial index, 3)) (hf : cells + mc ≤ R.cells ∧ slots + ms ≤ R.slots)
    (kk : ∀ (H1 : Heap) (locs1 : List Loc), Gv H1 → (∀ q : Nat, q < H.size → ¬ A1 q → H1[q]? = H[q]?) → va_S A0 H0 H1 locs1 → W p l e R s m args below meth c H1 locs1 (cells + mc) (slots + ms) Q (F0 m (pc + 3) ls rest)) : W p l e R s m args below meth c H locs cells slots Q (F0 m pc ls st) :=
  va_callv (va_runIN (rest := rest) S hM cw (zr_pn hst hK hF hz) rfl hn hsize hs (lv_room hcat) hdg hf) hS (fun q _ h => hA q h) hA (fun u t H1 locs1 ht _ hp hB hz hk hS1 => kk H1 locs1 (by rw [← ht]; exact hB) hk hS1)
theorem zr_iI (S : CallFix p m c cc nL s args Ts own) (hM : zMn l y ws rm D cI cT (.ref b :: As) sz F Gv A1 mc ms) (cw : CallB R s args own index y bytes maxL none ws rm mc ms n ∧ y.name = "<init>" ∧ (Cond.instanceMethod y).before args s = true) (hst : zStab F) (hK : zK D cI cT s) (hF : F s H) (hz : H.size = sz)
    (hS : va_S A0 H0 H locs) (hA : ∀ q, A1 q → A0 q)
    (hn : As.length = n) (hsize : ls.size = nL) (hs : st = As.reverse ++ .ref b :: rest) (hcat : (rest.map fun v => v.category).sum ≤ 8) (hdg : decode cc pc = .ok (.invokespecial index, 3)) (hf : cells + mc ≤ R.cells ∧ slots + ms ≤ R.slots)
    (kk : ∀ (H1 : Heap) (locs1 : List Loc), Gv H1 → (∀ q : Nat, q < H.size → ¬ A1 q → H1[q]? = H[q]?) → va_S A0 H0 H1 locs1 → W p l e R s m args below meth c H1 locs1 (cells + mc) (slots + ms) Q (F0 m (pc + 3) ls rest)) : W p l e R s m args below meth c H locs cells slots Q (F0 m pc ls st) :=
  va_callv (va_runI (rest := rest) S hM cw (zr_pn hst hK hF hz) rfl hn hsize hs (lv_room hcat) hdg hf) hS (fun q _ h => hA q h) hA (fun u t H1 locs1 ht _ hp hB hz hk hS1 => kk H1 locs1 (by rw [← ht]; exact hB) hk hS1)
theorem zr_obj (hx : p.tables.exec = Jvm.exec) (hb : c.code = cc) (hown : s.vm.findClass own = some m.cls) (hml : c.maxLocals = ls.size) (hl : (Cond.methodLink own index Lib.objectInit).before args s = true) (hi : (Cond.instanceMethod Lib.objectInit).before args s = true) (hc : (Cond.code Lib.objectInit ⟨#[0xb1]⟩ 1 none).before args s = true) (hframes : 1 ≤ R.frames) (hlocals : 12 ≤ R.locals) {a : Nat} (hdg : decode cc pc = .ok (.invokespecial index, 3))
    (kk : W p l e R s m args below meth c H locs cells slots Q (F0 m (pc + 3) ls [])) : W p l e R s m args below meth c H locs cells slots Q (F0 m pc ls [.ref a]) := by
  exact W.objInit hx hb hown hl hi hc rfl hml.symm rfl hdg hframes (by show 2 * 0 + 0 + 12 ≤ _; omega) kk
end ZN
/-! the first state -/
def σ00 : Nat → Int → Int := fun k => match k with
  | 4 => zu (zu (zu (zu (fun _ => 0) 0 6) 1 6) 2 4) 3 5
  | _ => fun _ => 0
def g00 : Int → Int := zu (zu (zu (zu (fun _ => 0) 8 6) 9 6) 10 4) 11 5
def μ00 : Nat → Int → Int := fun k => match k with
  | 1 => g00
  | _ => fun _ => 0
theorem inv_00 : Inv g00 := by
  refine ⟨by decide, by decide, by decide, by decide, fun m m0 m1 => ?_, by decide, fun c c0 c1 => ?_, fun a a0 a1 => ?_, fun h h0 h1 => ?_⟩
  · rcases (show m = 0 ∨ m = 1 ∨ m = 2 by omega) with e | e | e <;> subst e <;> decide
  · have e : g00 0 = 0 := rfl
    omega
  · have e : g00 1 = 0 := rfl
    omega
  · have e : g00 2 = 0 := rfl
    omega
theorem rel_00 : Rel σ00 g00 := by
  refine ⟨⟨rfl, rfl, rfl, rfl, rfl⟩, ⟨rfl, rfl, rfl⟩, fun i i0 i1 => ?_, fun c c0 c1 => ?_, fun a a0 a1 => ?_, fun h h0 h1 => ?_⟩
  · rcases (show i = 0 ∨ i = 1 ∨ i = 2 ∨ i = 3 by omega) with e | e | e | e <;> subst e <;> rfl
  · have e : g00 0 = 0 := rfl
    omega
  · have e : g00 1 = 0 := rfl
    omega
  · have e : g00 2 = 0 := rfl
    omega
theorem mR_00 (hs : Nat → Int → Int) : mR μ00 g00 0 hs 0 (fun _ => 0) := ⟨rfl, ⟨by decide, rfl, fun j hj => absurd hj (Nat.not_lt_zero _)⟩, rfl, fun i i0 i1 => absurd i1 (by omega)⟩
/-- where a State's cells lie: its object at h, the rest from sz on -/
def oA (h sz : Nat) : Nat → Nat := fun k => match k with
  | 0 => h
  | 1 => sz
  | 2 => sz + 9
  | 3 => sz + 12
  | 4 => sz + 18
  | 5 => sz + 1
  | 6 => sz + 2
  | 7 => sz + 3
  | 8 => sz + 4
  | 9 => sz + 5
  | 10 => sz + 6
  | 11 => sz + 7
  | 12 => sz + 8
  | 13 => sz + 10
  | 14 => sz + 11
  | 15 => sz + 13
  | 16 => sz + 14
  | 17 => sz + 15
  | 18 => sz + 16
  | 19 => sz + 17
  | k => sz + k
theorem sC_congr {cI : ClassId} {ad ad' : Nat → Nat} {σ : Nat → Int → Int} (h : ∀ k : Nat, k < 20 → ad k = ad' k) (k : Nat) : sC cI ad σ k = sC cI ad' σ k := by
  match k with
  | 0 => simp only [sC, h 1 (by decide), h 2 (by decide), h 3 (by decide), h 4 (by decide)]
  | 1 => simp only [sC, h 5 (by decide), h 6 (by decide), h 7 (by decide), h 8 (by decide), h 9 (by decide), h 10 (by decide), h 11 (by decide), h 12 (by decide)]
  | 2 => simp only [sC, h 13 (by decide), h 14 (by decide)]
  | 3 => simp only [sC, h 15 (by decide), h 16 (by decide), h 17 (by decide), h 18 (by decide), h 19 (by decide)]
  | k + 4 => rfl
theorem zW_sC {D : va_G} {cI : ClassId} {ad ad' : Nat → Nat} {σ : Nat → Int → Int} {H : Heap} (h : zW D ad 20 (sC cI ad σ) H) (e : ∀ k : Nat, k < 20 → ad' k = ad k) : zW D ad' 20 (sC cI ad' σ) H := fun k hk => by
  rw [e k hk, sC_congr e]
  exact h k hk
