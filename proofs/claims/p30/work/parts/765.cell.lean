set_option maxHeartbeats 4000000 in
set_option maxRecDepth 100000 in
theorem ct_L_cell (l : Launch) (D : va_G) (cI cT : ClassId) (b L : Nat) (xs : Nat → Int32) (k : Int) (hL : (L : Int) ≤ 260) (k0 : 0 ≤ k) (k1 : k ≤ 1000) : zMr l yL_cell wsL_cell ({ frames := 0, cells := 0, slots := 0, locals := 0 }) D cI cT [.ref b, .int (zI k)] (fun U H => va_X b L xs U H) (fun _ => True) := by
  refine Met.ofW (cc := cL_cell) (maxL := 2) (ret := (some .int)) (by decide) rfl ?_
  intro p_ e_ s m_ args below meth c_ s₁ B hml hv
  obtain ⟨rfl, hK, hF⟩ := hv
  have hx := B.exec
  have hb := B.bytes
  have hr := B.returns
  have hlocks := B.notSynchronized
  have hbl : b < s.heap.size := by
    obtain ⟨scr, h1, _⟩ := hF
    exact (Array.getElem?_eq_some_iff.mp h1).1
  have hS : va_S (fun _ => False) s.heap s.heap [] := va_S.rf
  have hl := lv_entry ([.ref b, .int (zI k)]) (n := 2) (Nat.le_of_ble_eq_true rfl)
  rw [lg_entry_eq]
  generalize (lg_sl ([.ref b, .int (zI k)]) ++ List.replicate (2 - (lg_sl ([.ref b, .int (zI k)])).length) Slot.unset).toArray = ls at hl ⊢
  have hl : lv_has ls 2 [(0, .ref b), (1, .int (zI k))] := hl
  refine lv_iload_n (pc := 0) hx hb dL_cell_0 rfl (lv_at hl 1 rfl) ?_
  refine lv_aload_n (pc := 1) hx hb dL_cell_1 rfl (lv_at hl 0 rfl) ?_
  refine zr_slen (pc := 2) hx hb hF hbl (fun z => z) hS dL_cell_2 ?_
  refine zr_icmp_ge (pc := 3) (tgt := 12) hx hb dL_cell_3 (by decide) (by omega) (by omega) (fun c_3 => ?_) (fun c_3 => ?_)
  · refine lv_sipush (pc := 12) (v := zI 7919) hx hb dL_cell_12 zc_sipush_7919 ?_
    refine lv_iload_n (pc := 15) hx hb dL_cell_15 rfl (lv_at hl 1 rfl) ?_
    refine lv_iconst (pc := 16) (v := zI 3) hx hb dL_cell_16 rfl ?_
    refine zr_iadd (pc := 17) (d := k + 3) hx hb dL_cell_17 rfl ?_
    refine zr_imul (pc := 18) (d := 7919 * (k + 3)) hx hb dL_cell_18 rfl ?_
    refine lv_iload_n (pc := 19) hx hb dL_cell_19 rfl (lv_at hl 1 rfl) ?_
    refine lv_bipush (pc := 20) (v := zI 11) hx hb dL_cell_20 zc_bipush_11 ?_
    refine zr_iadd (pc := 22) (d := k + 11) hx hb dL_cell_22 rfl ?_
    refine zr_imul (pc := 23) (d := 7919 * (k + 3) * (k + 11)) hx hb dL_cell_23 rfl ?_
    exact W.iret (v := zI (7919 * (k + 3) * (k + 11))) hx hb hr (fun tz ht hW => ⟨_, rfl, trivial, ht⟩) (fun _ h => by cases h) dL_cell_24
  · refine lv_aload_n (pc := 6) hx hb dL_cell_6 rfl (lv_at hl 0 rfl) ?_
    refine lv_iload_n (pc := 7) hx hb dL_cell_7 rfl (lv_at hl 1 rfl) ?_
    refine zr_sld (pc := 8) hx hb hF hbl (fun z => z) hS k0 c_3 (by omega) dL_cell_8 ?_
    refine lv_goto (pc := 9) (tgt := 24) hx hb dL_cell_9 (by decide) ?_
    exact W.iret (v := zI (xv xs k)) hx hb hr (fun tz ht hW => ⟨_, rfl, trivial, ht⟩) (fun _ h => by cases h) dL_cell_24
