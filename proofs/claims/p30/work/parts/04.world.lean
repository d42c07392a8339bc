def zNest : List (String × Nat × MethodName × String) := [(RX7, 9, yX4_init, RX7), (RX4, 11, yX6_init, RX7), (RX4, 20, yX0_init, RX7), (RX4, 27, yX1_init, RX7), (RX2, 17, yX4_init, RX7), (RX7, 25, yX5_init, RX7), (RX6, 40, yX7_copyRow, RX7), (RX0, 22, yX7_copyRow, RX7), (RX1, 31, yX7_copyRow, RX7), (RX4, 46, yX7_copyRow, RX7), (RX6, 44, yX7_put, RX7), (RX0, 26, yX7_put, RX7), (RX1, 43, yX7_at, RX7), (RX6, 48, yX7_at, RX7), (RX5, 19, yX7_put, RX7), (RX3, 19, yX7_at, RX7), (RX3, 90, yX7_isWithin, RX7), (RX3, 27, yX7_put, RX7), (RX0, 30, yX7_at, RX7), (RX4, 80, yX7_at, RX7), (RX1, 39, yX7_put, RX7), (RX4, 161, yX7_isIn, RX7), (RX6, 65, yX7_isIn, RX7)]
/-! the world: cells at addresses that a function gives, their contents by a function -/
def zK (D : va_G) (cI cT : ClassId) (U : State) : Prop := va_K D vwCl [(cI, .int), (cT, .object "CostumeStock$State")] U ∧ (∀ q ∈ zNest, va_Nw (.methodLinkNest q.1 q.2.1 q.2.2.1 q.2.2.2) U) ∧ va_Nw (.fieldLinkNest RX6 62 RX7 "PROGRAMS_OF_CODE" "[I" RX7) U
theorem zK_warm {D : va_G} {cI cT : ClassId} {s U : State} (hW : s.WarmedH U.vm) (h : zK D cI cT s) : zK D cI cT U := ⟨va_K.moved hW.alike h.1, fun q hq => va_Nw.warmM hW (h.2.1 q hq), va_Nw.warmF hW h.2.2⟩
theorem zK_same {D : va_G} {cI cT : ClassId} {u U : State} (e : u.vm = U.vm) (h : zK D cI cT u) : zK D cI cT U := ⟨va_K.moved (by rw [e]; exact Vm.Alike.refl _) h.1, fun q hq => va_Nw.same rfl e (h.2.1 q hq), va_Nw.same rfl e h.2.2⟩
theorem zK_int {D : va_G} {cI cT : ClassId} {s : State} (h : zK D cI cT s) : ArrOfT s cI .int := (h.1.2 0 _ rfl).1
theorem zK_nest {D : va_G} {cI cT : ClassId} {s : State} (h : zK D cI cT s) (k : Nat) {a : String} {i : Nat} {y : MethodName} {o : String} (hk : zNest[k]? = some (a, i, y, o)) : va_Nw (.methodLinkNest a i y o) s := h.2.1 (a, i, y, o) (List.mem_of_getElem? hk)
def zW (D : va_G) (ad : Nat → Nat) (N : Nat) (ct : Nat → va_E) (H : Heap) : Prop := ∀ k : Nat, k < N → va_at D vwCl (ad k, ct k) H
def zJ (ad : Nat → Nat) (N : Nat) : Prop := ∀ i j : Nat, i < N → j < N → ad i = ad j → i = j
def zR (ad : Nat → Nat) (N sz : Nat) : Nat → Prop := fun q => (∃ k : Nat, k < N ∧ q = ad k) ∨ sz ≤ q
theorem zW.lt {D : va_G} {ad : Nat → Nat} {N : Nat} {ct : Nat → va_E} {H : Heap} (h : zW D ad N ct H) {k : Nat} (hk : k < N) : ad k < H.size := (h k hk).lt
theorem zW.put {D : va_G} {ad : Nat → Nat} {N : Nat} {ct : Nat → va_E} {H H1 : Heap} (h : zW D ad N ct H) (hJ : zJ ad N) (k0 : Nat) (hk0 : k0 < N) {x : va_E} (he : va_at D vwCl (ad k0, x) H1) (oq : ∀ q : Nat, q < H.size → q ≠ ad k0 → H1[q]? = H[q]?) {ct' : Nat → va_E} (hct : va_up ct k0 x = ct') : zW D ad N ct' H1 := by
  subst hct
  intro k hk
  by_cases e : k = k0
  · subst e
    show va_at D vwCl (ad k, if k = k then x else ct k) H1
    rw [if_pos rfl]
    exact he
  · show va_at D vwCl (ad k, if k = k0 then x else ct k) H1
    rw [if_neg e]
    exact (h k hk).kept (oq _ (h k hk).lt (fun z => e (hJ k k0 hk hk0 z)))
theorem zW.keep {D : va_G} {ad : Nat → Nat} {N : Nat} {ct : Nat → va_E} {H H1 : Heap} {A1 : Nat → Prop} (h : zW D ad N ct H) (hk : ∀ q : Nat, q < H.size → ¬ A1 q → H1[q]? = H[q]?) (hA : ∀ k : Nat, k < N → ¬ A1 (ad k)) : zW D ad N ct H1 :=
  fun k h1 => (h k h1).kept (hk _ (h k h1).lt (hA k h1))
theorem zW.ext {D : va_G} {ad : Nat → Nat} {N : Nat} {ct ct' : Nat → va_E} {H : Heap} (h : zW D ad N ct H) (e : ∀ k : Nat, k < N → ct k = ct' k) : zW D ad N ct' H := fun k hk => by rw [← e k hk]; exact h k hk
/-! reads, writes, calls -/
def zStab (F : State → Heap → Prop) : Prop := ∀ (u U : State) (H : Heap), u.vm.Alike U.vm → F u H → F U H
theorem zs0 {G : Heap → Prop} : zStab (fun _ H => G H) := fun _ _ _ _ h => h
theorem zs_ar {n : Nat} {g : Int → Int} {a : Nat} : zStab (fun U H => zAr n g a U H) := fun _ _ _ hv h => h.moved hv
/-- a method that only reads, and answers an int -/
abbrev zMr (l : Launch) (y : MethodName) (ws : List Cond) (rm : Room) (D : va_G) (cI cT : ClassId) (av : List Value) (F : State → Heap → Prop) (post : Int32 → Prop) : Prop := Met l y ws rm (va_Pc av (fun U => zK D cI cT U ∧ F U U.heap)) (vp_Si post) 0 0 (fun _ => False)
/-- a method that writes: an int, or nothing -/
abbrev zMi (l : Launch) (y : MethodName) (ws : List Cond) (rm : Room) (D : va_G) (cI cT : ClassId) (av : List Value) (sz : Nat) (F : State → Heap → Prop) (G : Int32 → Heap → Prop) (A : Nat → Prop) : Prop := Met l y ws rm (va_Pc av (fun U => U.heap.size = sz ∧ zK D cI cT U ∧ F U U.heap)) (va_Qi (fun (r u : Int32) => u = r) (fun (u : Int32) t => G u t.heap) A) 0 0 A
abbrev zMv (l : Launch) (y : MethodName) (ws : List Cond) (rm : Room) (D : va_G) (cI cT : ClassId) (av : List Value) (sz : Nat) (F : State → Heap → Prop) (G : Heap → Prop) (A : Nat → Prop) : Prop := Met l y ws rm (va_Pc av (fun U => U.heap.size = sz ∧ zK D cI cT U ∧ F U U.heap)) (va_Qv (fun (_ : Unit) => True) (fun (_ : Unit) t => G t.heap) A) 0 0 A
section ZC
variable {p : Program} {l : Launch} {e : Env} {R : Room} {s : State} {m : MethodId} {args : Array Value} {below : List Frame} {meth : Method} {c : Code} {H : Heap} {locs : List Loc} {cells slots : Nat} {Q : State → Prop}
variable {cc : ByteArray} {pc : Nat} {ls : Array Slot} {rest st As : List Value} {D : va_G} {cI cT : ClassId} {Ts : List Cond} {own C host : String} {nL index n maxL : Nat} {y : MethodName} {bytes : ByteArray} {ret : Option FieldType} {ws : List Cond} {rm : Room} {b sz : Nat} {F : State → Heap → Prop} {post : Int32 → Prop} {G : Int32 → Heap → Prop} {Gv : Heap → Prop} {A1 A0 : Nat → Prop} {H0 : Heap}
theorem zr_ri (hr : va_Run p l e R s m args below meth c H locs cells slots 0 0 (F0 m pc ls st) rest (vp_Si post As.toArray) (fun _ => False))
    (kk : ∀ r : Int32, post r → W p l e R s m args below meth c H locs cells slots Q (F0 m (pc + 3) ls (.int r :: rest))) : W p l e R s m args below meth c H locs cells slots Q (F0 m pc ls st) := by
  intro T hT X
  obtain ⟨v, st₀, t, T', L, h0, X', hL, e1, e2, ⟨r, hv, hp, hh⟩, st⟩ := hr T hT X
  cases hv
  obtain ⟨t2, a1, b1⟩ := kk r hp T' (by rw [e1, hh, h0]) (Stand.forget X' (fun q h => (hL q h).elim))
  exact ⟨t2, st t2 a1, b1⟩
theorem zr_pr (hst : zStab F) (hK : zK D cI cT s) (hF : F s H) : FrameBlind (va_Pc As (fun U => zK D cI cT U ∧ F U U.heap)) ∧ ∀ U : State, U.heap = H → s.WarmedH U.vm → va_Pc As (fun U => zK D cI cT U ∧ F U U.heap) As.toArray U :=
  ⟨fun a U g mk q => ⟨q.1, zK_same rfl q.2.1, hst U _ _ (Vm.Alike.refl _) q.2.2⟩, fun U hU hW => ⟨rfl, zK_warm hW hK, by rw [hU]; exact hst s U H hW.alike hF⟩⟩
theorem zr_pw (hst : zStab F) (hK : zK D cI cT s) (hF : F s H) : FrameBlind (va_Pc As (fun U => U.heap.size = H.size ∧ zK D cI cT U ∧ F U U.heap)) ∧ ∀ U : State, U.heap = H → s.WarmedH U.vm → va_Pc As (fun U => U.heap.size = H.size ∧ zK D cI cT U ∧ F U U.heap) As.toArray U :=
  ⟨fun a U g mk q => ⟨q.1, q.2.1, zK_same rfl q.2.2.1, hst U _ _ (Vm.Alike.refl _) q.2.2.2⟩, fun U hU hW => ⟨rfl, by rw [hU], zK_warm hW hK, by rw [hU]; exact hst s U H hW.alike hF⟩⟩
/-- a virtual call of a reader -/
theorem zr_vi (S : CallFix p m c cc nL s args Ts own) (hM : zMr l y ws rm D cI cT (.ref b :: As) F post) (cw : CallW R s args own C index y bytes maxL ret ws rm 0 0 n) (hst : zStab F) (hK : zK D cI cT s) (hF : F s H) (hrc : ∃ cell : Cell, H[b]? = some cell ∧ cell.vm.isStatics = false ∧ s.vm.findClass C = some cell.cls)
    (hn : As.length = n) (hsize : ls.size = nL) (hs : st = As.reverse ++ .ref b :: rest) (hcat : (rest.map fun v => v.category).sum ≤ 8) (hdg : decode cc pc = .ok (.invokevirtual index, 3)) (hf : cells + 0 ≤ R.cells ∧ slots + 0 ≤ R.slots)
    (kk : ∀ r : Int32, post r → W p l e R s m args below meth c H locs cells slots Q (F0 m (pc + 3) ls (.int r :: rest))) : W p l e R s m args below meth c H locs cells slots Q (F0 m pc ls st) :=
  zr_ri (As := .ref b :: As) (va_runV (rest := rest) S hM cw ⟨(zr_pr hst hK hF).1, hrc, (zr_pr hst hK hF).2⟩ rfl hn hsize hs (lv_room hcat) hdg hf) kk
theorem zr_si (S : CallFix p m c cc nL s args Ts own) (hM : zMr l y ws rm D cI cT As F post) (cw : CallB R s args own index y bytes maxL ret ws rm 0 0 n ∧ (Cond.static y).before args s = true) (hst : zStab F) (hK : zK D cI cT s) (hF : F s H)
    (hn : As.length = n) (hsize : ls.size = nL) (hs : st = As.reverse ++ rest) (hcat : (rest.map fun v => v.category).sum ≤ 8) (hdg : decode cc pc = .ok (.invokestatic index, 3)) (hf : cells + 0 ≤ R.cells ∧ slots + 0 ≤ R.slots)
    (kk : ∀ r : Int32, post r → W p l e R s m args below meth c H locs cells slots Q (F0 m (pc + 3) ls (.int r :: rest))) : W p l e R s m args below meth c H locs cells slots Q (F0 m pc ls st) :=
  zr_ri (As := As) (va_runS (rest := rest) S hM cw (zr_pr hst hK hF) rfl hn hsize hs (lv_room hcat) hdg hf) kk
theorem zr_ni (S : CallFix p m c cc nL s args Ts own) (hM : zMr l y ws rm D cI cT As F post) (cw : va_CN R s args own index y host bytes maxL ret ws rm 0 0 n) (hstat : (Cond.static y).before args s = true) (hst : zStab F) (hK : zK D cI cT s) (hF : F s H)
    (hn : As.length = n) (hsize : ls.size = nL) (hs : st = As.reverse ++ rest) (hcat : (rest.map fun v => v.category).sum ≤ 8) (hdg : decode cc pc = .ok (.invokestatic index, 3)) (hf : cells + 0 ≤ R.cells ∧ slots + 0 ≤ R.slots)
    (kk : ∀ r : Int32, post r → W p l e R s m args below meth c H locs cells slots Q (F0 m (pc + 3) ls (.int r :: rest))) : W p l e R s m args below meth c H locs cells slots Q (F0 m pc ls st) :=
  zr_ri (As := As) (va_runSN (rest := rest) S hM ⟨cw, hstat, trivial⟩ (zr_pr hst hK hF) rfl hn hsize hs (lv_room hcat) hdg hf) kk
/-- calls of writers -/
theorem zr_vwi (S : CallFix p m c cc nL s args Ts own) (hM : zMi l y ws rm D cI cT (.ref b :: As) H.size F G A1) (cw : CallW R s args own C index y bytes maxL ret ws rm 0 0 n) (hst : zStab F) (hK : zK D cI cT s) (hF : F s H) (hrc : ∃ cell : Cell, H[b]? = some cell ∧ cell.vm.isStatics = false ∧ s.vm.findClass C = some cell.cls)
    (hS : va_S A0 H0 H locs) (hA : ∀ q, A1 q → A0 q)
    (hn : As.length = n) (hsize : ls.size = nL) (hs : st = As.reverse ++ .ref b :: rest) (hcat : (rest.map fun v => v.category).sum ≤ 8) (hdg : decode cc pc = .ok (.invokevirtual index, 3)) (hf : cells + 0 ≤ R.cells ∧ slots + 0 ≤ R.slots)
    (kk : ∀ (r : Int32) (H1 : Heap) (locs1 : List Loc), G r H1 → H.size ≤ H1.size → (∀ q : Nat, q < H.size → ¬ A1 q → H1[q]? = H[q]?) → va_S A0 H0 H1 locs1 → W p l e R s m args below meth c H1 locs1 cells slots Q (F0 m (pc + 3) ls (.int r :: rest))) : W p l e R s m args below meth c H locs cells slots Q (F0 m pc ls st) :=
  va_calli (va_runV (rest := rest) S hM cw ⟨(zr_pw hst hK hF).1, hrc, (zr_pw hst hK hF).2⟩ rfl hn hsize hs (lv_room hcat) hdg hf) hS (fun q _ h => hA q h) hA (fun r u t H1 locs1 ht _ hp hB hz hk hS1 => kk r H1 locs1 (by rw [← hp, ← ht]; exact hB) hz hk hS1)
theorem zr_vwv (S : CallFix p m c cc nL s args Ts own) (hM : zMv l y ws rm D cI cT (.ref b :: As) H.size F Gv A1) (cw : CallW R s args own C index y bytes maxL ret ws rm 0 0 n) (hst : zStab F) (hK : zK D cI cT s) (hF : F s H) (hrc : ∃ cell : Cell, H[b]? = some cell ∧ cell.vm.isStatics = false ∧ s.vm.findClass C = some cell.cls)
    (hS : va_S A0 H0 H locs) (hA : ∀ q, A1 q → A0 q)
    (hn : As.length = n) (hsize : ls.size = nL) (hs : st = As.reverse ++ .ref b :: rest) (hcat : (rest.map fun v => v.category).sum ≤ 8) (hdg : decode cc pc = .ok (.invokevirtual index, 3)) (hf : cells + 0 ≤ R.cells ∧ slots + 0 ≤ R.slots)
    (kk : ∀ (H1 : Heap) (locs1 : List Loc), Gv H1 → H.size ≤ H1.size → (∀ q : Nat, q < H.size → ¬ A1 q → H1[q]? = H[q]?) → va_S A0 H0 H1 locs1 → W p l e R s m args below meth c H1 locs1 cells slots Q (F0 m (pc + 3) ls rest)) : W p l e R s m args below meth c H locs cells slots Q (F0 m pc ls st) :=
  va_callv (va_runV (rest := rest) S hM cw ⟨(zr_pw hst hK hF).1, hrc, (zr_pw hst hK hF).2⟩ rfl hn hsize hs (lv_room hcat) hdg hf) hS (fun q _ h => hA q h) hA (fun u t H1 locs1 ht _ hp hB hz hk hS1 => kk H1 locs1 (by rw [← ht]; exact hB) hz hk hS1)
theorem zr_swv (S : CallFix p m c cc nL s args Ts own) (hM : zMv l y ws rm D cI cT As H.size F Gv A1) (cw : CallB R s args own index y bytes maxL ret ws rm 0 0 n ∧ (Cond.static y).before args s = true) (hst : zStab F) (hK : zK D cI cT s) (hF : F s H)
    (hS : va_S A0 H0 H locs) (hA : ∀ q, A1 q → A0 q)
    (hn : As.length = n) (hsize : ls.size = nL) (hs : st = As.reverse ++ rest) (hcat : (rest.map fun v => v.category).sum ≤ 8) (hdg : decode cc pc = .ok (.invokestatic index, 3)) (hf : cells + 0 ≤ R.cells ∧ slots + 0 ≤ R.slots)
    (kk : ∀ (H1 : Heap) (locs1 : List Loc), Gv H1 → H.size ≤ H1.size → (∀ q : Nat, q < H.size → ¬ A1 q → H1[q]? = H[q]?) → va_S A0 H0 H1 locs1 → W p l e R s m args below meth c H1 locs1 cells slots Q (F0 m (pc + 3) ls rest)) : W p l e R s m args below meth c H locs cells slots Q (F0 m pc ls st) :=
  va_callv (va_runS (rest := rest) S hM cw (zr_pw hst hK hF) rfl hn hsize hs (lv_room hcat) hdg hf) hS (fun q _ h => hA q h) hA (fun u t H1 locs1 ht _ hp hB hz hk hS1 => kk H1 locs1 (by rw [← ht]; exact hB) hz hk hS1)
theorem zr_nwv (S : CallFix p m c cc nL s args Ts own) (hM : zMv l y ws rm D cI cT As H.size F Gv A1) (cw : va_CN R s args own index y host bytes maxL ret ws rm 0 0 n) (hstat : (Cond.static y).before args s = true) (hst : zStab F) (hK : zK D cI cT s) (hF : F s H)
    (hS : va_S A0 H0 H locs) (hA : ∀ q, A1 q → A0 q)
    (hn : As.length = n) (hsize : ls.size = nL) (hs : st = As.reverse ++ rest) (hcat : (rest.map fun v => v.category).sum ≤ 8) (hdg : decode cc pc = .ok (.invokestatic index, 3)) (hf : cells + 0 ≤ R.cells ∧ slots + 0 ≤ R.slots)
    (kk : ∀ (H1 : Heap) (locs1 : List Loc), Gv H1 → H.size ≤ H1.size → (∀ q : Nat, q < H.size → ¬ A1 q → H1[q]? = H[q]?) → va_S A0 H0 H1 locs1 → W p l e R s m args below meth c H1 locs1 cells slots Q (F0 m (pc + 3) ls rest)) : W p l e R s m args below meth c H locs cells slots Q (F0 m pc ls st) :=
  va_callv (va_runSN (rest := rest) S hM ⟨cw, hstat, trivial⟩ (zr_pw hst hK hF) rfl hn hsize hs (lv_room hcat) hdg hf) hS (fun q _ h => hA q h) hA (fun u t H1 locs1 ht _ hp hB hz hk hS1 => kk H1 locs1 (by rw [← ht]; exact hB) hz hk hS1)
/-- a field read, a field written -/
theorem zr_get (S : CallFix p m c cc nL s args Ts own) (hK : zK D cI cT s) {C : String} {T : u_T} {N ci a : Nat} {fs : List Value} {v : Value} (hO : va_at D vwCl (a, .inr (ci, fs)) H) (hc : vwCl[ci]? = some (C, T, N)) (hin : ∀ w ∈ u_ws C T N, w ∈ Ts) (k : Nat) (hk : k < N) (hl : Cond.fieldLink own index (T k).1 (T k).2.1 (T k).2.2.1 ∈ Ts) (hv : fs[k]? = some v) (hdg : decode cc pc = .ok (.getfield index, 3))
    (kk : W p l e R s m args below meth c H locs cells slots Q (F0 m (pc + 3) ls (v :: rest))) : W p l e R s m args below meth c H locs cells slots Q (F0 m pc ls (.ref a :: rest)) :=
  va_get (D := D) (cl := vwCl) (ws := [(a, .inr (ci, fs))]) S.1 S.2.1 S.2.2.2.2 hin S.2.2.2.1 hK.1 (fun k q hq => by
    match k, hq with
    | 0, hq => cases hq; exact hO
    | k + 1, hq => simp at hq) 0 rfl hc k hk (S.2.2.2.2 _ hl) (fun _ h => h) hv hdg kk
theorem zr_put (S : CallFix p m c cc nL s args Ts own) (hK : zK D cI cT s) {C : String} {T : u_T} {N ci a : Nat} {fs : List Value} {v : Value} (hO : va_at D vwCl (a, .inr (ci, fs)) H) (hc : vwCl[ci]? = some (C, T, N)) (hin : ∀ w ∈ u_ws C T N, w ∈ Ts) (ty0 : Nat → FieldType) (hty : ∀ k, k < N → parseFieldDescriptor (T k).2.2.1 = some (ty0 k)) (hnm : ∀ a, a < N → ∀ b, b < N → a ≠ b → (T a).2.1 ≠ (T b).2.1) (k : Nat) (hk : k < N) (hl : Cond.fieldLink own index (T k).1 (T k).2.1 (T k).2.2.1 ∈ Ts) (hfin : (T k).2.2.2 = false) (hn : narrow (ty0 k) v = v) (hfit : fits (ty0 k) v = true) (hlen : k < fs.length)
    (hS0 : va_S A0 H0 H locs) (ha : A0 a) (hdg : decode cc pc = .ok (.putfield index, 3))
    (kk : ∀ (H1 : Heap) (locs1 : List Loc), va_at D vwCl (a, .inr (ci, fs.set k v)) H1 → H1.size = H.size → (∀ q : Nat, q < H.size → q ≠ a → H1[q]? = H[q]?) → va_S A0 H0 H1 locs1 → W p l e R s m args below meth c H1 locs1 cells slots Q (F0 m (pc + 3) ls rest)) : W p l e R s m args below meth c H locs cells slots Q (F0 m pc ls (v :: .ref a :: rest)) := by
  obtain ⟨hx, hb, hml, hown, hts⟩ := S
  have hap := va_apart (own := own) hts hin ty0 hty hnm hK.1 hc
  obtain ⟨r, h1, cell, q1, q2, q3, q4⟩ := hO
  have hr : r = (C, T, N) := Option.some.inj (h1.symm.trans hc)
  subst hr
  obtain ⟨hS, hfc, kC, hkC, hkind⟩ := hK.1.1 ci _ hc
  obtain ⟨cf, kf, fi, f, hi, hsl⟩ := hS k hk
  have hlay := hts _ (hin _ (u_in_lay hk))
  unfold u_lay at hlay
  rw [if_neg (by rw [hfin]; decide)] at hlay
  have hst := (u_facts hfc hkC (u_lays hts hin hk) hi).1
  have h6 := u_store hfc hkC hkind hlay hi (hty k hk) hn hfit
  refine W.putK hx hb (f := f) ⟨hown, hts _ hl, ⟨_, _, _, hi⟩, hst⟩ (by rw [q2]; exact h6) q1 q3 (by rw [hsl]; exact k2_hasslot (q4 k hk)) rfl rfl hdg fun H' e1 e2 e3 => ?_
  rw [hsl] at e1 ⊢
  exact kk H' _ ⟨_, hc, t_OB.to (V := updV (vp_V fs) k v) ⟨_, e1, q2, q3, t_set q4 hap hk v⟩ (fun j _ => vp_updV_set hlen v j)⟩ e2 (fun q _ h => e3 q h) (hS0.put e2 e3 ha)
theorem zr_ast (hx : p.tables.exec = Jvm.exec) (hb : c.code = cc) (hK : zK D cI cT s) {k : Nat} {g : Int → Int} {a : Nat} {i v : Int} (hO : va_at D vwCl (a, .inl (cI, k, .inl (zf g))) H) (h0 : 0 ≤ i) (h1 : i < (k : Int)) (hn : (k : Int) ≤ 2147483647) (hS0 : va_S A0 H0 H locs) (ha : A0 a) (hdg : decode cc pc = .ok (.iastore, 1))
    (kk : ∀ (H1 : Heap) (locs1 : List Loc), va_at D vwCl (a, .inl (cI, k, .inl (zf (zu g i v)))) H1 → H1.size = H.size → (∀ q : Nat, q < H.size → q ≠ a → H1[q]? = H[q]?) → va_S A0 H0 H1 locs1 → W p l e R s m args below meth c H1 locs1 cells slots Q (F0 m (pc + 1) ls rest)) : W p l e R s m args below meth c H locs cells slots Q (F0 m pc ls (.int (zI v) :: .int (zI i) :: .ref a :: rest)) := by
  refine W.iast hx hb hO (zK_int hK k (fun j => .int (zf g j))) (fun q => by cases q) (by show ¬ (zI i < 0 ∨ (arrV _ _ _).slots.size ≤ _); rw [arrV_size]; exact zi_in h0 h1 hn) rfl rfl hdg fun H1 e1 z oq => ?_
  refine kk H1 _ ?_ z (fun q _ h => oq q h) (hS0.put z oq ha)
  show H1[a]? = some (vp_cell _ _)
  rw [e1, ← zf_upd h0 (by omega)]
  rw [vp_cell_i, vp_cell_i, arrV_store]
  congr 2
  funext q
  by_cases hq : q = (zI i).toNatClampNeg
  · subst hq
    simp [updV, upd]
  · simp [updV, upd, hq]
theorem zr_recv {ci a : Nat} {fs : List Value} {q : vw_C} (hK : zK D cI cT s) (hO : va_at D vwCl (a, .inr (ci, fs)) H) (hc : vwCl[ci]? = some q) : ∃ cell : Cell, H[a]? = some cell ∧ cell.vm.isStatics = false ∧ s.vm.findClass q.1 = some cell.cls := by
  obtain ⟨q', h1, cell, g1, g2, g3, -⟩ := hO
  exact ⟨cell, g1, by rw [g3]; rfl, by rw [g2]; exact (hK.1.1 ci q hc).2.1⟩
end ZC
