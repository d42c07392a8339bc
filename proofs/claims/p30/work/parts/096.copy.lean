theorem sC_b {cI : ClassId} {ad : Nat → Nat} {σ : Nat → Int → Int} (k : Nat) (hk : 4 ≤ k) (f : Int → Int) : va_up (sC cI ad σ) k (.inl (cI, szS k, .inl (zf f))) = sC cI ad (va_up σ k f) := by
  funext j
  by_cases hj : j = k
  · subst hj
    show (if j = j then _ else _) = _
    rw [if_pos rfl]
    match j, hk with
    | j + 4, _ =>
      show _ = (.inl (cI, szS (j + 4), .inl (zf (va_up σ (j + 4) f (j + 4)))) : va_E)
      simp [va_up]
  · show (if j = k then _ else _) = _
    rw [if_neg hj]
    have e : ∀ i : Nat, i ≠ k → va_up σ k f i = σ i := fun i h => by simp [va_up, h]
    match j with
    | 0 => simp only [sC, e 0 (show 0 ≠ k by omega)]
    | 1 => simp only [sC, e 1 (show 1 ≠ k by omega)]
    | 2 => simp only [sC, e 2 (show 2 ≠ k by omega)]
    | 3 => simp only [sC, e 3 (show 3 ≠ k by omega)]
    | j + 4 =>
      show (.inl (cI, szS (j + 4), .inl (zf (σ (j + 4)))) : va_E) = .inl (cI, szS (j + 4), .inl (zf (va_up σ k f (j + 4))))
      rw [e _ hj]
section ZY
variable {p : Program} {l : Launch} {e : Env} {R : Room} {s : State} {m : MethodId} {args : Array Value} {below : List Frame} {meth : Method} {c : Code} {H : Heap} {locs : List Loc} {cells slots : Nat} {Q : State → Prop}
variable {cc : ByteArray} {pc : Nat} {ls : Array Slot} {rest : List Value} {D : va_G} {cI cT : ClassId} {A : Nat → Prop} {H0 : Heap}
theorem zr_copy (hx : p.tables.exec = Jvm.exec) (hb : c.code = cc) (hml : c.maxLocals = ls.size) {own : String} {index : Nat} (hown : s.vm.findClass own = some m.cls) (hlink : (Cond.methodLink own index arraycopyName).before args s = true) (hnat : (Cond.native arraycopyName).before args s = true) (hstat : (Cond.static arraycopyName).before args s = true) (hini : (Cond.initialized "java/lang/System").before args s = true)
    (hK : zK D cI cT s) {n : Nat} {f f2 : Int → Int} {a0 a : Nat} (hc0 : va_at D vwCl (a0, .inl (cI, n, .inl (zf f))) H) (hc1 : va_at D vwCl (a, .inl (cI, n, .inl (zf f2))) H) (hn : (n : Int) ≤ 2147483647) (hS : va_S A H0 H locs) (ha : A a)
    (hframes : 1 ≤ R.frames) (hlocals : (rest.map fun v => v.category).sum + (nativeFrameWords "java/lang/System" "arraycopy" 5 + 11) ≤ R.locals) (hdg : decode cc pc = .ok (.invokestatic index, 3))
    (kk : ∀ (H1 : Heap) (locs1 : List Loc), va_at D vwCl (a, .inl (cI, n, .inl (zf f))) H1 → H1.size = H.size → (∀ q : Nat, q < H.size → q ≠ a → H1[q]? = H[q]?) → va_S A H0 H1 locs1 → W p l e R s m args below meth c H1 locs1 cells slots Q (F0 m (pc + 3) ls rest)) : W p l e R s m args below meth c H locs cells slots Q (F0 m pc ls (.int (zI (n : Int)) :: .int (zI 0) :: .ref a :: .int (zI 0) :: .ref a0 :: rest)) := by
  have hcl0 : (zI 0).toNatClampNeg = 0 := rfl
  have hcln : (zI (n : Int)).toNatClampNeg = n := by have := zi_clamp (a := (n : Int)) (by omega) hn; omega
  have hneg : ∀ z : Int, 0 ≤ z → z ≤ 2147483647 → ¬ zI z < 0 := fun z h0 h1 h => by
    have := (zi_lt (a := z) (b := 0) (by omega) (by decide)).mp h
    omega
  have ht0 : (zI 0).toInt = 0 := rfl
  have htn : (zI (n : Int)).toInt = (n : Int) := zi_toInt (by omega)
  intro T hT X
  obtain ⟨-, k0, hk0, cm0, hkk0⟩ := zK_int hK n (fun j => .int (zf f j))
  obtain ⟨-, k1, hk1, cm1, hkk1⟩ := zK_int hK n (fun j => .int (zf f2 j))
  obtain ⟨vm', X', step⟩ := X.arraycopy hx hown hlink hnat hstat hini (src := a0) (dst := a) (cs := vp_cell cI (n, .inl (zf f))) (cd := vp_cell cI (n, .inl (zf f2))) (srcPos := zI 0) (destPos := zI 0) (n := zI (n : Int)) (by rw [hT]; exact hc0) (by rw [hT]; exact hc1)
    (fun _ h => by cases h) (fun _ h => by cases h) (fun h => by cases h) (fun h => by cases h) hk0 hk1 hkk0 hkk1 (by simp [refKind]) (hneg 0 (by omega) (by omega)) (hneg 0 (by omega) (by omega)) (hneg _ (by omega) hn)
    (by rw [ht0, htn]; show ¬ _ > ((arrV cI n (fun j => .int (zf f j))).slots.size : Int); rw [arrV_size]; omega)
    (by rw [ht0, htn]; show ¬ _ > ((arrV cI n (fun j => .int (zf f2 j))).slots.size : Int); rw [arrV_size]; omega)
    (fun vm₁ _ i hi => by
      have e : (vp_cell cI (n, .inl (zf f))).slots.getD ((zI 0).toNatClampNeg + i) .null = .int (zf f ((zI 0).toNatClampNeg + i)) := by
        show (arrV cI n (fun j => .int (zf f j))).slots.getD _ _ = _
        rw [Array.getD_eq_getD_getElem?, arrV_read _ _ (by omega)]
        rfl
      refine ⟨?_, ?_⟩
      · rw [e]
        rfl
      · rw [e]
        exact trivial)
    (g := F0 m pc ls (.int (zI (n : Int)) :: .int (zI 0) :: .ref a :: .int (zI 0) :: .ref a0 :: rest)) rfl (by rw [hml]) (rest := rest) rfl (by rw [hb]; exact hdg) hframes (by show 2 * 0 + _ + _ ≤ _; omega)
  have e1 : copied (vp_cell cI (n, .inl (zf f))) (vp_cell cI (n, .inl (zf f2))) (zI 0) (zI 0) (zI (n : Int)) = vp_cell cI (n, .inl (va_cpy (zf f) (zf f2) (zI 0).toNatClampNeg (zI 0).toNatClampNeg (zI (n : Int)).toNatClampNeg)) := va_copied (fun z => .int z) cI cI (zf f) (zf f2) (by rw [hcl0, hcln]; omega)
  have e2 : vp_cell cI (n, .inl (va_cpy (zf f) (zf f2) (zI 0).toNatClampNeg (zI 0).toNatClampNeg (zI (n : Int)).toNatClampNeg)) = vp_cell cI (n, .inl (zf f)) := by
    rw [hcl0, hcln, vp_cell_i, vp_cell_i]
    have e3 : (fun j : Fin n => Value.int (va_cpy (zf f) (zf f2) 0 0 n j.val)) = (fun j : Fin n => Value.int (zf f j.val)) := by
      funext j
      have hj := j.isLt
      show Value.int (if 0 ≤ j.val ∧ j.val < 0 + n then zf f (0 + (j.val - 0)) else zf f2 j.val) = _
      rw [if_pos (by omega), show 0 + (j.val - 0) = j.val by omega]
    show ({ cls := cI, slots := Array.ofFn (n := n) (fun j : Fin n => Value.int (va_cpy (zf f) (zf f2) 0 0 n j.val)), vm := .none } : Cell) = { cls := cI, slots := Array.ofFn (n := n) (fun j : Fin n => Value.int (zf f j.val)), vm := .none }
    rw [e3]
  rw [e1, e2] at X' step
  have hl : a < H.size := (Array.getElem?_eq_some_iff.mp hc1).1
  have hheap : ((T.setVm vm').setCell a (vp_cell cI (n, .inl (zf f)))).heap = H.setIfInBounds a (vp_cell cI (n, .inl (zf f))) := by rw [← hT]; rfl
  have oq : ∀ q : Nat, q ≠ a → (H.setIfInBounds a (vp_cell cI (n, .inl (zf f))))[q]? = H[q]? := fun q hq => by simp [Array.getElem?_setIfInBounds, Ne.symm hq]
  obtain ⟨t, a1, b1⟩ := kk _ _ (show (H.setIfInBounds a _)[a]? = some _ by simp [Array.getElem?_setIfInBounds, hl]) (by simp) (fun q _ h => oq q h) ⟨by simp; exact hS.1, fun q g1 g2 => by
      rw [oq q (fun e => g2 (by rw [e]; exact ha))]
      exact hS.2.1 q g1 g2, fun q hq => by
      rcases List.mem_append.mp hq with h | h
      · exact hS.2.2 q h
      · obtain ⟨z, -, hz⟩ := List.mem_map.mp h
        rw [← hz]
        exact ha⟩ _ hheap X'
  exact ⟨t, step t a1, b1⟩
end ZY
