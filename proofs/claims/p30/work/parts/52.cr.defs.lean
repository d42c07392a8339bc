/-! the class's reader: its numbers, its rows, the words it knows -/
def rD (i s e t c a : Int) : Int → Int := fun j => if j = 0 then i else if j = 1 then s else if j = 2 then e else if j = 3 then t else if j = 4 then c else if j = 5 then a else 0
section RDX
variable {i s e t c a : Int}
theorem rD_0 : rD i s e t c a 0 = i := rfl
theorem rD_1 : rD i s e t c a 1 = s := rfl
theorem rD_2 : rD i s e t c a 2 = e := rfl
theorem rD_3 : rD i s e t c a 3 = t := rfl
theorem rD_4 : rD i s e t c a 4 = c := rfl
theorem rD_5 : rD i s e t c a 5 = a := rfl
end RDX
section CDX
variable {D : va_G} {cI : ClassId} {ad : Nat → Nat} {tl i s e t c a : Int} {tx rp : Int → Int} {H H1 : Heap}
theorem cD_0 (v : Int) (hJ : zJ ad 127) (h : cY D cI ad tl tx (rD i s e t c a) rp H) (hk : ∀ q : Nat, q < H.size → q ≠ ad 123 → H1[q]? = H[q]?) (hO : va_at D vwCl (ad 123, .inr (3, [.int (zI v), .int (zI (rD i s e t c a 1)), .int (zI (rD i s e t c a 2)), .int (zI (rD i s e t c a 3)), .int (zI (rD i s e t c a 4)), .int (zI (rD i s e t c a 5)), .ref (ad 121), .ref (ad 124)])) H1) : cY D cI ad tl tx (rD v s e t c a) rp H1 := cY_rd (rD v s e t c a) hJ h hk hO
theorem cD_1 (v : Int) (hJ : zJ ad 127) (h : cY D cI ad tl tx (rD i s e t c a) rp H) (hk : ∀ q : Nat, q < H.size → q ≠ ad 123 → H1[q]? = H[q]?) (hO : va_at D vwCl (ad 123, .inr (3, [.int (zI (rD i s e t c a 0)), .int (zI v), .int (zI (rD i s e t c a 2)), .int (zI (rD i s e t c a 3)), .int (zI (rD i s e t c a 4)), .int (zI (rD i s e t c a 5)), .ref (ad 121), .ref (ad 124)])) H1) : cY D cI ad tl tx (rD i v e t c a) rp H1 := cY_rd (rD i v e t c a) hJ h hk hO
theorem cD_2 (v : Int) (hJ : zJ ad 127) (h : cY D cI ad tl tx (rD i s e t c a) rp H) (hk : ∀ q : Nat, q < H.size → q ≠ ad 123 → H1[q]? = H[q]?) (hO : va_at D vwCl (ad 123, .inr (3, [.int (zI (rD i s e t c a 0)), .int (zI (rD i s e t c a 1)), .int (zI v), .int (zI (rD i s e t c a 3)), .int (zI (rD i s e t c a 4)), .int (zI (rD i s e t c a 5)), .ref (ad 121), .ref (ad 124)])) H1) : cY D cI ad tl tx (rD i s v t c a) rp H1 := cY_rd (rD i s v t c a) hJ h hk hO
theorem cD_3 (v : Int) (hJ : zJ ad 127) (h : cY D cI ad tl tx (rD i s e t c a) rp H) (hk : ∀ q : Nat, q < H.size → q ≠ ad 123 → H1[q]? = H[q]?) (hO : va_at D vwCl (ad 123, .inr (3, [.int (zI (rD i s e t c a 0)), .int (zI (rD i s e t c a 1)), .int (zI (rD i s e t c a 2)), .int (zI v), .int (zI (rD i s e t c a 4)), .int (zI (rD i s e t c a 5)), .ref (ad 121), .ref (ad 124)])) H1) : cY D cI ad tl tx (rD i s e v c a) rp H1 := cY_rd (rD i s e v c a) hJ h hk hO
theorem cD_4 (v : Int) (hJ : zJ ad 127) (h : cY D cI ad tl tx (rD i s e t c a) rp H) (hk : ∀ q : Nat, q < H.size → q ≠ ad 123 → H1[q]? = H[q]?) (hO : va_at D vwCl (ad 123, .inr (3, [.int (zI (rD i s e t c a 0)), .int (zI (rD i s e t c a 1)), .int (zI (rD i s e t c a 2)), .int (zI (rD i s e t c a 3)), .int (zI v), .int (zI (rD i s e t c a 5)), .ref (ad 121), .ref (ad 124)])) H1) : cY D cI ad tl tx (rD i s e t v a) rp H1 := cY_rd (rD i s e t v a) hJ h hk hO
theorem cD_5 (v : Int) (hJ : zJ ad 127) (h : cY D cI ad tl tx (rD i s e t c a) rp H) (hk : ∀ q : Nat, q < H.size → q ≠ ad 123 → H1[q]? = H[q]?) (hO : va_at D vwCl (ad 123, .inr (3, [.int (zI (rD i s e t c a 0)), .int (zI (rD i s e t c a 1)), .int (zI (rD i s e t c a 2)), .int (zI (rD i s e t c a 3)), .int (zI (rD i s e t c a 4)), .int (zI v), .ref (ad 121), .ref (ad 124)])) H1) : cY D cI ad tl tx (rD i s e t c v) rp H1 := cY_rd (rD i s e t c v) hJ h hk hO
theorem cY_rD {rd : Int → Int} (h : cY D cI ad tl tx rd rp H) : cY D cI ad tl tx (rD (rd 0) (rd 1) (rd 2) (rd 3) (rd 4) (rd 5)) rp H := h
end CDX
theorem alw_n {w v : Int} (h0 : 1 ≤ w) (h1 : w ≤ 5) : ((w = 4 ∧ 0 ≤ v ∧ v ≤ 8) ∨ (w = 5 ∧ 0 ≤ v ∧ v ≤ 3) ∨ (w ≠ 4 ∧ w ≠ 5 ∧ 40 ≤ v ∧ v ≤ 200)) ↔ (loN w ≤ v ∧ v ≤ hiN w) := by
  unfold loN hiN
  rcases (show w = 1 ∨ w = 2 ∨ w = 3 ∨ w = 4 ∨ w = 5 by omega) with e | e | e | e | e <;> subst e <;> simp <;> omega
theorem pL_c {tx : Int → Int} {tl p : Int} (h : tW tx tl p wdC) : pL tx tl p = tE tx tl (tP tx tl p 5) := by
  unfold pL
  rw [nN_c h, tP_s]
theorem pL_a {tx : Int → Int} {tl p : Int} (h : ¬ tW tx tl p wdC) : pL tx tl p = tE tx tl (tP tx tl p 3) := by
  unfold pL
  rw [nN_a h, tP_s]
theorem pE_d {tx : Int → Int} {tl p : Int} (h : dK tx tl p) : pE tx tl p = tE tx tl (pL tx tl p) := tif_t h _ _
theorem pE_n {tx : Int → Int} {tl p : Int} (h : ¬ dK tx tl p) : pE tx tl p = pL tx tl p := tif_f h _ _
/-- an item as the class keeps it -/
def rpI (tx : Int → Int) (tl p i : Int) (rp : Int → Int) : Prop := (tW tx tl p wdC → rp (i * 7 + 0) = 0 ∧ (∀ k : Nat, 1 ≤ k → k ≤ 5 → rp (i * 7 + (k : Int)) = vN tx tl p k) ∧ rp (i * 7 + 6) = ti (dK tx tl p)) ∧ (¬ tW tx tl p wdC → rp (i * 7 + 0) = 1 ∧ ∀ k : Nat, 1 ≤ k → k ≤ 3 → rp (i * 7 + (k : Int)) = vN tx tl p k)
theorem rpI_congr {tx : Int → Int} {tl p i : Int} {rp rp' : Int → Int} (h : rpI tx tl p i rp) (e : ∀ x : Int, i * 7 ≤ x → x < i * 7 + 7 → rp' x = rp x) : rpI tx tl p i rp' := by
  refine ⟨fun z => ?_, fun z => ?_⟩
  · obtain ⟨a, b, c⟩ := h.1 z
    exact ⟨(e _ (by omega) (by omega)).trans a, fun k k1 k2 => (e _ (by omega) (by omega)).trans (b k k1 k2), (e _ (by omega) (by omega)).trans c⟩
  · obtain ⟨a, b⟩ := h.2 z
    exact ⟨(e _ (by omega) (by omega)).trans a, fun k k1 k2 => (e _ (by omega) (by omega)).trans (b k k1 k2)⟩
theorem wdC_ch : ∀ k : Nat, k < wdC.length → 0 ≤ wdC.getD k 0 ∧ wdC.getD k 0 ≤ 127 := by decide
theorem wdA_ch : ∀ k : Nat, k < wdA.length → 0 ≤ wdA.getD k 0 ∧ wdA.getD k 0 ≤ 127 := by decide
theorem wdD_ch : ∀ k : Nat, k < wdD.length → 0 ≤ wdD.getD k 0 ∧ wdD.getD k 0 ≤ 127 := by decide
/-- the three words -/
def zSt (bs : Nat) (U : State) (H : Heap) : Prop := ∃ q0 q1 q2 v0 v1 v2 : Nat, zSo bs q0 v0 wdC U H ∧ zSo bs q1 v1 wdA U H ∧ zSo bs q2 v2 wdD U H ∧ vk_R "CostumeStock$Reader" 50 "costume" q0 U ∧ vk_R "CostumeStock$Reader" 56 "actor" q1 U ∧ vk_R "CostumeStock$Reader" 70 "dark" q2 U
def zStab2 (F : State → Heap → Prop) : Prop := (∀ (u U : State) (H : Heap), U.vm = u.vm → F u H → F U H) ∧ (∀ (u U : State) (H : Heap), u.WarmedH U.vm → F u H → F U H)
theorem zSt.same {bs : Nat} {u U : State} {H : Heap} (hv : U.vm = u.vm) (h : zSt bs u H) : zSt bs U H := by
  obtain ⟨q0, q1, q2, v0, v1, v2, a, b, c, d, e, f⟩ := h
  have ha : u.vm.Alike U.vm := by rw [hv]; exact Vm.Alike.refl _
  exact ⟨q0, q1, q2, v0, v1, v2, a.moved ha, b.moved ha, c.moved ha, d.same hv, e.same hv, f.same hv⟩
theorem zSt.warm {bs : Nat} {u U : State} {H : Heap} (hW : u.WarmedH U.vm) (h : zSt bs u H) : zSt bs U H := by
  obtain ⟨q0, q1, q2, v0, v1, v2, a, b, c, d, e, f⟩ := h
  exact ⟨q0, q1, q2, v0, v1, v2, a.moved hW.alike, b.moved hW.alike, c.moved hW.alike, d.warm hW, e.warm hW, f.warm hW⟩
theorem zSt.kept {bs : Nat} {U : State} {H H1 : Heap} (h : zSt bs U H) (hk : ∀ a : Nat, a < H.size → ¬ bs ≤ a → H1[a]? = H[a]?) : zSt bs U H1 := by
  obtain ⟨q0, q1, q2, v0, v1, v2, a, b, c, d, e, f⟩ := h
  exact ⟨q0, q1, q2, v0, v1, v2, a.kept hk, b.kept hk, c.kept hk, d, e, f⟩
theorem zs2_St {bs : Nat} {G : Heap → Prop} : zStab2 (fun U H => G H ∧ zSt bs U H) := ⟨fun _ _ _ hv h => ⟨h.1, h.2.same hv⟩, fun _ _ _ hW h => ⟨h.1, h.2.warm hW⟩⟩
section ZC2
variable {p : Program} {l : Launch} {e : Env} {R : Room} {s : State} {m : MethodId} {args : Array Value} {below : List Frame} {meth : Method} {c : Code} {H : Heap} {locs : List Loc} {cells slots : Nat} {Q : State → Prop}
variable {cc : ByteArray} {pc : Nat} {ls : Array Slot} {rest st As : List Value} {D : va_G} {cI cT : ClassId} {Ts : List Cond} {own C host : String} {nL index n maxL : Nat} {y : MethodName} {bytes : ByteArray} {ret : Option FieldType} {ws : List Cond} {rm : Room} {b sz : Nat} {F : State → Heap → Prop} {post : Int32 → Prop} {G : Int32 → Heap → Prop} {Gv : Heap → Prop} {A1 A0 : Nat → Prop} {H0 : Heap}
theorem zr_pw2 (hst : zStab2 F) (hK : zK D cI cT s) (hF : F s H) : FrameBlind (va_Pc As (fun U => U.heap.size = H.size ∧ zK D cI cT U ∧ F U U.heap)) ∧ ∀ U : State, U.heap = H → s.WarmedH U.vm → va_Pc As (fun U => U.heap.size = H.size ∧ zK D cI cT U ∧ F U U.heap) As.toArray U :=
  ⟨fun a U g mk q => ⟨q.1, q.2.1, zK_same rfl q.2.2.1, hst.1 U _ _ rfl q.2.2.2⟩, fun U hU hW => ⟨rfl, by rw [hU], zK_warm hW hK, by rw [hU]; exact hst.2 s U H hW hF⟩⟩
theorem zr_vwi2 (S : CallFix p m c cc nL s args Ts own) (hM : zMi l y ws rm D cI cT (.ref b :: As) H.size F G A1) (cw : CallW R s args own C index y bytes maxL ret ws rm 0 0 n) (hst : zStab2 F) (hK : zK D cI cT s) (hF : F s H) (hrc : ∃ cell : Cell, H[b]? = some cell ∧ cell.vm.isStatics = false ∧ s.vm.findClass C = some cell.cls)
    (hS : va_S A0 H0 H locs) (hA : ∀ q, A1 q → A0 q)
    (hn : As.length = n) (hsize : ls.size = nL) (hs : st = As.reverse ++ .ref b :: rest) (hcat : (rest.map fun v => v.category).sum ≤ 8) (hdg : decode cc pc = .ok (.invokevirtual index, 3)) (hf : cells + 0 ≤ R.cells ∧ slots + 0 ≤ R.slots)
    (kk : ∀ (r : Int32) (H1 : Heap) (locs1 : List Loc), G r H1 → H.size ≤ H1.size → (∀ q : Nat, q < H.size → ¬ A1 q → H1[q]? = H[q]?) → va_S A0 H0 H1 locs1 → W p l e R s m args below meth c H1 locs1 cells slots Q (F0 m (pc + 3) ls (.int r :: rest))) : W p l e R s m args below meth c H locs cells slots Q (F0 m pc ls st) :=
  va_calli (va_runV (rest := rest) S hM cw ⟨(zr_pw2 hst hK hF).1, hrc, (zr_pw2 hst hK hF).2⟩ rfl hn hsize hs (lv_room hcat) hdg hf) hS (fun q _ h => hA q h) hA (fun r u t H1 locs1 ht _ hp hB hz hk hS1 => kk r H1 locs1 (by rw [← hp, ← ht]; exact hB) hz hk hS1)
end ZC2
