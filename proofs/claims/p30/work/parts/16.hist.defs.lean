/-! the history: its object at ad 125, its row of states at ad 126, the five states behind ad 20, ad 40 .. ad 100 -/
def hd (ad : Nat → Nat) (j : Nat) : Nat → Nat := fun k => ad (20 * (j + 1) + k)
abbrev hO1 (D : va_G) (ad : Nat → Nat) (n m : Int) (H : Heap) : Prop := va_at D vwCl (ad 125, .inr (2, [.int (zI n), .int (zI m), .ref (ad 126)])) H
abbrev hO2 (D : va_G) (cT : ClassId) (ad : Nat → Nat) (H : Heap) : Prop := va_at D vwCl (ad 126, .inl (cT, 5, .inr (.inr (.inr (.inr (fun j => some (ad (20 * (j + 1))))))))) H
abbrev hQs (D : va_G) (cI : ClassId) (ad : Nat → Nat) (σs : Nat → Nat → Int → Int) (H : Heap) : Prop := ∀ j : Nat, j < 5 → zW D (hd ad j) 20 (sC cI (hd ad j) (σs j)) H
def zRh (ad : Nat → Nat) (sz : Nat) : Nat → Prop := fun q => (q = ad 125 ∨ ∃ j k : Nat, j < 5 ∧ k < 20 ∧ q = hd ad j k) ∨ sz ≤ q
theorem hd_J {ad : Nat → Nat} (h : zJ ad 127) {j : Nat} (hj : j < 5) : zJ (hd ad j) 20 := fun a b ha hb e => by
  have := h (20 * (j + 1) + a) (20 * (j + 1) + b) (by omega) (by omega) e
  omega
theorem hd_ne {ad : Nat → Nat} (h : zJ ad 127) {j k i : Nat} (hj : j < 5) (hk : k < 20) (hi : i < 127) (hn : 20 * (j + 1) + k ≠ i) : hd ad j k ≠ ad i := fun e => hn (h (20 * (j + 1) + k) i (by omega) hi e)
theorem zJ_le {ad : Nat → Nat} {N M : Nat} (h : zJ ad M) (hN : N ≤ M) : zJ ad N := fun a b ha hb e => h a b (by omega) (by omega) e
section ZQ
variable {p : Program} {l : Launch} {e : Env} {R : Room} {s : State} {m : MethodId} {args : Array Value} {below : List Frame} {meth : Method} {c : Code} {H : Heap} {locs : List Loc} {cells slots : Nat} {Q : State → Prop}
variable {cc : ByteArray} {pc : Nat} {ls : Array Slot} {rest st As : List Value} {D : va_G} {cI cT : ClassId} {Ts : List Cond} {own C : String} {nL index n maxL : Nat} {y : MethodName} {bytes : ByteArray} {ret : Option FieldType} {ws : List Cond} {rm : Room} {b : Nat} {F : State → Heap → Prop} {post : Nat → Prop} {adv : Nat → Value}
/-- a reader that answers a cell -/
abbrev zMq (l : Launch) (y : MethodName) (ws : List Cond) (rm : Room) (D : va_G) (cI cT : ClassId) (av : List Value) (F : State → Heap → Prop) (post : Nat → Prop) (adv : Nat → Value) : Prop := Met l y ws rm (va_Pc av (fun U => zK D cI cT U ∧ F U U.heap)) (va_Sr post adv) 0 0 (fun _ => False)
theorem zr_rr (hr : va_Run p l e R s m args below meth c H locs cells slots 0 0 (F0 m pc ls st) rest (va_Sr post adv As.toArray) (fun _ => False))
    (kk : ∀ k : Nat, post k → W p l e R s m args below meth c H locs cells slots Q (F0 m (pc + 3) ls (adv k :: rest))) : W p l e R s m args below meth c H locs cells slots Q (F0 m pc ls st) := by
  intro T hT X
  obtain ⟨v, st₀, t, T', L, h0, X', hL, e1, e2, ⟨k, hv, hp, hh⟩, st⟩ := hr T hT X
  cases hv
  obtain ⟨t2, a1, b1⟩ := kk k hp T' (by rw [e1, hh, h0]) (Stand.forget X' (fun q h => (hL q h).elim))
  exact ⟨t2, st t2 a1, b1⟩
theorem zr_vr (S : CallFix p m c cc nL s args Ts own) (hM : zMq l y ws rm D cI cT (.ref b :: As) F post adv) (cw : CallW R s args own C index y bytes maxL ret ws rm 0 0 n) (hst : zStab F) (hK : zK D cI cT s) (hF : F s H) (hrc : ∃ cell : Cell, H[b]? = some cell ∧ cell.vm.isStatics = false ∧ s.vm.findClass C = some cell.cls)
    (hn : As.length = n) (hsize : ls.size = nL) (hs : st = As.reverse ++ .ref b :: rest) (hcat : (rest.map fun v => v.category).sum ≤ 8) (hdg : decode cc pc = .ok (.invokevirtual index, 3)) (hf : cells + 0 ≤ R.cells ∧ slots + 0 ≤ R.slots)
    (kk : ∀ k : Nat, post k → W p l e R s m args below meth c H locs cells slots Q (F0 m (pc + 3) ls (adv k :: rest))) : W p l e R s m args below meth c H locs cells slots Q (F0 m pc ls st) :=
  zr_rr (As := .ref b :: As) (va_runV (rest := rest) S hM cw ⟨(zr_pr hst hK hF).1, hrc, (zr_pr hst hK hF).2⟩ rfl hn hsize hs (lv_room hcat) hdg hf) kk
theorem zr_aald (hx : p.tables.exec = Jvm.exec) (hb : c.code = cc) (hK : zK D cI cT s) {k : Nat} {f : Nat → Option Nat} {a : Nat} {j : Nat} {r : Nat} (hO : va_at D vwCl (a, .inl (cT, k, .inr (.inr (.inr (.inr f))))) H) (hj : j < k) (hn : k < 2147483648) (hf : f j = some r) (hdg : decode cc pc = .ok (.aaload, 1))
    (kk : W p l e R s m args below meth c H locs cells slots Q (F0 m (pc + 1) ls (.ref r :: rest))) : W p l e R s m args below meth c H locs cells slots Q (F0 m pc ls (.int (zI (j : Int)) :: .ref a :: rest)) := by
  have hin := zi_in (a := (j : Int)) (n := k) (by omega) (by omega) (by omega)
  have e := zi_clamp (a := (j : Int)) (by omega) (by omega)
  have e2 : (zI (j : Int)).toNatClampNeg = j := by omega
  refine W.aald (v := .ref r) (ty := .object "CostumeStock$State") hx hb hO ((hK.1.2 1 _ rfl).1 k (fun j => va_rf (f j))) rfl (fun q => by cases q) (by show ¬ (zI (j : Int) < 0 ∨ (arrV _ _ _).slots.size ≤ _); rw [arrV_size]; exact hin) ?_ rfl rfl hdg kk
  show (arrV _ _ _).slots[_]? = _
  rw [e2, arrV_read _ _ hj, hf]
  rfl
theorem zr_aalen (hx : p.tables.exec = Jvm.exec) (hb : c.code = cc) (hK : zK D cI cT s) {k : Nat} {f : Nat → Option Nat} {a : Nat} (hO : va_at D vwCl (a, .inl (cT, k, .inr (.inr (.inr (.inr f))))) H) (hdg : decode cc pc = .ok (.arraylength, 1))
    (kk : W p l e R s m args below meth c H locs cells slots Q (F0 m (pc + 1) ls (.int (zI (k : Int)) :: rest))) : W p l e R s m args below meth c H locs cells slots Q (F0 m pc ls (.ref a :: rest)) := by
  refine W.alen (n := zI (k : Int)) hx hb hO ((hK.1.2 1 _ rfl).1 k (fun j => va_rf (f j))) ?_ rfl rfl hdg kk
  rw [zi_nat]
  show (arrV _ _ _).slots.size.toInt32 = _
  rw [arrV_size] <;> rfl
end ZQ
