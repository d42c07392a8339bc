set_option maxHeartbeats 4000000 in
set_option maxRecDepth 100000 in
theorem ct_L_low (l : Launch) (D : va_G) (cI cT : ClassId) (v n : Int) (n0 : 1 ≤ n) (n1 : n ≤ 100) : zMr l yL_low wsL_low ({ frames := 0, cells := 0, slots := 0, locals := 0 }) D cI cT [.int (zI (v)), .int (zI (n))] (fun _ _ => True) (fun r => r = zI (lw v n)) := by
  refine Met.ofW (cc := cL_low) (maxL := 2) (ret := (some .int)) (by decide) rfl ?_
  intro p_ e_ s m_ args below meth c_ s₁ B hml hv
  obtain ⟨rfl, hK, hF⟩ := hv
  have hx := B.exec
  have hb := B.bytes
  have hr := B.returns
  have hts := atoms_spec (ws := wsL_low) B.pre
  have hown : s.vm.findClass RL = some m_.cls := findClass_of_methodNamed B.named
  have hlocks := B.notSynchronized
  have S : CallFix p_ m_ c_ cL_low 2 s _ wsL_low RL := ⟨hx, hb, hml, hown, hts⟩
  have hl := lv_entry ([.int (zI (v)), .int (zI (n))]) (n := 2) (Nat.le_of_ble_eq_true rfl)
  rw [lg_entry_eq]
  generalize (lg_sl ([.int (zI (v)), .int (zI (n))]) ++ List.replicate (2 - (lg_sl ([.int (zI (v)), .int (zI (n))])).length) Slot.unset).toArray = ls at hl ⊢
  have hl : lv_has ls 2 [(0, .int (zI (v))), (1, .int (zI (n)))] := hl
  refine lv_iload_n (pc := 0) hx hb dL_low_0 rfl (lv_at hl 0 rfl) ?_
  refine zr_ldc (pc := 1) (w := 2147483647) hx hb hown (hts _ (List.mem_of_getElem? (i := 1) rfl)) dL_low_1 (by decide +kernel) ?_
  refine zr_iand (pc := 3) (d := nd v 2147483647) hx hb dL_low_3 (zi_nd _ _) ?_
  refine lv_iload_n (pc := 4) hx hb dL_low_4 rfl (lv_at hl 1 rfl) ?_
  refine zr_irem (pc := 5) (d := nd v 2147483647 % n) hx hb dL_low_5 (zi_irem (nd_31 v) ⟨by omega, by omega⟩) ?_
  exact W.iret (v := zI (nd v 2147483647 % n)) hx hb hr (fun tz ht hW => ⟨_, rfl, rfl, ht⟩) (fun _ h => by cases h) dL_low_6
