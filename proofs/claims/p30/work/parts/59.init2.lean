set_option maxHeartbeats 4000000 in
set_option maxRecDepth 100000 in
theorem ct_X5_init (l : Launch) (D : va_G) (cI cT : ClassId) (h sz : Nat) (hh : h < sz) : zMn l yX5_init wsX5_init ({ frames := 1, cells := 1, slots := 120, locals := 20 }) D cI cT [.ref h] sz (fun _ H => va_at D vwCl (h, .inr (5, [.int (zI 0), .null])) H) (fun H => H.size = sz + 1 ∧ va_at D vwCl (h, .inr (5, [.int (zI 0), .ref sz])) H ∧ va_at D vwCl (sz, .inl (cI, 120, .inl (zf (fun _ => 0)))) H) (fun q => q = h ∨ sz ≤ q) 1 120 := by
  refine Met.ofW (cc := cX5_init) (maxL := 1) (ret := none) (by decide) rfl ?_
  intro p_ e_ s m_ args below meth c_ s₁ B hml hv
  obtain ⟨rfl, hz, hK, k_h⟩ := hv
  have hx := B.exec
  have hb := B.bytes
  have hr := B.returns
  have hts := atoms_spec (ws := wsX5_init) B.pre
  have hown : s.vm.findClass RX5 = some m_.cls := findClass_of_methodNamed B.named
  have hlocks := B.notSynchronized
  have hin : meth.name = "<init>" := (name_of_methodNamed B.named B.method).1
  have S : CallFix p_ m_ c_ cX5_init 1 s _ wsX5_init RX5 := ⟨hx, hb, hml, hown, hts⟩
  have i_X5 : ∀ w ∈ u_ws RX5 TX5 2, w ∈ wsX5_init := fun _ h => List.mem_cons_of_mem _ (List.mem_append_right _ h)
  generalize hAe : (fun (q : Nat) => q = h ∨ sz ≤ q) = A
  have hAs : ∀ q : Nat, sz ≤ q → A q := fun q hq => by rw [← hAe]; exact Or.inr hq
  have hAn : ∀ q : Nat, s.heap.size ≤ q → A q := fun q hq => hAs q (by omega)
  have hAh : A h := by rw [← hAe]; exact Or.inl rfl
  obtain ⟨H, hHe⟩ : ∃ H : Heap, H = s.heap := ⟨_, rfl⟩
  rw [← hHe] at k_h hz ⊢
  have hS : va_S A s.heap H [] := by rw [hHe]; exact va_S.rf
  have hl := lv_entry ([.ref h]) (n := 1) (Nat.le_of_ble_eq_true rfl)
  rw [lg_entry_eq]
  generalize (lg_sl ([.ref h]) ++ List.replicate (1 - (lg_sl ([.ref h])).length) Slot.unset).toArray = ls at hl ⊢
  have hl : lv_has ls 1 [(0, .ref h)] := hl
  refine lv_aload_n (pc := 0) hx hb dX5_init_0 rfl (lv_at hl 0 rfl) ?_
  refine zr_obj (pc := 1) hx hb hown (hml.trans hl.1.symm) (hts _ (List.mem_of_getElem? (i := 1) rfl)) (hts _ (List.mem_of_getElem? (i := 2) rfl)) (hts _ (List.mem_of_getElem? (i := 3) rfl)) (Nat.le_of_ble_eq_true rfl) (Nat.le_of_ble_eq_true rfl) dX5_init_1 ?_
  refine lv_aload_n (pc := 4) hx hb dX5_init_4 rfl (lv_at hl 0 rfl) ?_
  refine lv_bipush (pc := 5) (v := zI ((120 : Nat) : Int)) hx hb dX5_init_5 zc_bipush_120 ?_
  refine zr_newa (pc := 7) (n := 120) hx hb (hts _ (List.mem_of_getElem? (i := 4) rfl)) hK hS (by decide) dX5_init_7 (Nat.le_of_ble_eq_true rfl) (Nat.le_of_ble_eq_true rfl) hz (fun H hN hz1 hk hS => ?_)
  replace k_h := k_h.kept (hk _ (k_h).lt)
  have k_0 := hN
  replace hz : H.size = sz + 1 := hz1
  clear hz1 hk
  refine zr_putF (pc := 9) S hin hK k_h rfl i_X5 tyX5 tyX5_ok nmX5 1 (by decide) (List.mem_of_getElem? (i := 5) rfl) rfl rfl rfl rfl (Nat.le_of_ble_eq_true rfl) hS hAh dX5_init_9 (fun H locs hN hz1 hk hS => ?_)
  replace k_0 := k_0.kept (hk _ (k_0).lt (by omega))
  replace k_h := hN
  replace hz : H.size = sz + 1 := hz1.trans hz
  clear hz1 hk
  refine W.widen (k := 1) (n := 120) (Nat.le_of_ble_eq_true rfl) (Nat.le_of_ble_eq_true rfl) ?_
  exact W.vret hx hb hr (fun tz ht hW => ⟨⟨(), rfl, trivial, by dsimp only; rw [ht]; exact ⟨hz, k_h, k_0⟩⟩, hS.F ht⟩) hS.2.2 dX5_init_12

set_option maxHeartbeats 4000000 in
set_option maxRecDepth 100000 in
theorem ct_X3_init (l : Launch) (D : va_G) (cI cT : ClassId) (h sz : Nat) (hh : h < sz) (tx0 : Nat) : zMn l yX3_init wsX3_init ({ frames := 1, cells := 1, slots := 168, locals := 20 }) D cI cT [.ref h, .ref tx0] sz (fun _ H => va_at D vwCl (h, .inr (3, [.int (zI 0), .int (zI 0), .int (zI 0), .int (zI 0), .int (zI 0), .int (zI 0), .null, .null])) H) (fun H => H.size = sz + 1 ∧ va_at D vwCl (h, .inr (3, [.int (zI 0), .int (zI 0), .int (zI 0), .int (zI 0), .int (zI 0), .int (zI 0), .ref tx0, .ref sz])) H ∧ va_at D vwCl (sz, .inl (cI, 168, .inl (zf (fun _ => 0)))) H) (fun q => q = h ∨ sz ≤ q) 1 168 := by
  refine Met.ofW (cc := cX3_init) (maxL := 2) (ret := none) (by decide) rfl ?_
  intro p_ e_ s m_ args below meth c_ s₁ B hml hv
  obtain ⟨rfl, hz, hK, k_h⟩ := hv
  have hx := B.exec
  have hb := B.bytes
  have hr := B.returns
  have hts := atoms_spec (ws := wsX3_init) B.pre
  have hown : s.vm.findClass RX3 = some m_.cls := findClass_of_methodNamed B.named
  have hlocks := B.notSynchronized
  have hin : meth.name = "<init>" := (name_of_methodNamed B.named B.method).1
  have S : CallFix p_ m_ c_ cX3_init 2 s _ wsX3_init RX3 := ⟨hx, hb, hml, hown, hts⟩
  have i_X3 : ∀ w ∈ u_ws RX3 TX3 8, w ∈ wsX3_init := fun _ h => List.mem_cons_of_mem _ (List.mem_append_right _ h)
  generalize hAe : (fun (q : Nat) => q = h ∨ sz ≤ q) = A
  have hAs : ∀ q : Nat, sz ≤ q → A q := fun q hq => by rw [← hAe]; exact Or.inr hq
  have hAn : ∀ q : Nat, s.heap.size ≤ q → A q := fun q hq => hAs q (by omega)
  have hAh : A h := by rw [← hAe]; exact Or.inl rfl
  obtain ⟨H, hHe⟩ : ∃ H : Heap, H = s.heap := ⟨_, rfl⟩
  rw [← hHe] at k_h hz ⊢
  have hS : va_S A s.heap H [] := by rw [hHe]; exact va_S.rf
  have hl := lv_entry ([.ref h, .ref tx0]) (n := 2) (Nat.le_of_ble_eq_true rfl)
  rw [lg_entry_eq]
  generalize (lg_sl ([.ref h, .ref tx0]) ++ List.replicate (2 - (lg_sl ([.ref h, .ref tx0])).length) Slot.unset).toArray = ls at hl ⊢
  have hl : lv_has ls 2 [(0, .ref h), (1, .ref tx0)] := hl
  refine lv_aload_n (pc := 0) hx hb dX3_init_0 rfl (lv_at hl 0 rfl) ?_
  refine zr_obj (pc := 1) hx hb hown (hml.trans hl.1.symm) (hts _ (List.mem_of_getElem? (i := 1) rfl)) (hts _ (List.mem_of_getElem? (i := 2) rfl)) (hts _ (List.mem_of_getElem? (i := 3) rfl)) (Nat.le_of_ble_eq_true rfl) (Nat.le_of_ble_eq_true rfl) dX3_init_1 ?_
  refine lv_aload_n (pc := 4) hx hb dX3_init_4 rfl (lv_at hl 0 rfl) ?_
  refine lv_aload_n (pc := 5) hx hb dX3_init_5 rfl (lv_at hl 1 rfl) ?_
  refine zr_putF (pc := 6) S hin hK k_h rfl i_X3 tyX3 tyX3_ok nmX3 6 (by decide) (List.mem_of_getElem? (i := 4) rfl) rfl rfl rfl rfl (Nat.le_of_ble_eq_true rfl) hS hAh dX3_init_6 (fun H locs hN hz1 hk hS => ?_)
  replace k_h := hN
  replace hz : H.size = sz := hz1.trans hz
  clear hz1 hk
  refine lv_aload_n (pc := 9) hx hb dX3_init_9 rfl (lv_at hl 0 rfl) ?_
  refine lv_sipush (pc := 10) (v := zI ((168 : Nat) : Int)) hx hb dX3_init_10 zc_sipush_168 ?_
  refine zr_newa (pc := 13) (n := 168) hx hb (hts _ (List.mem_of_getElem? (i := 5) rfl)) hK hS (by decide) dX3_init_13 (Nat.le_of_ble_eq_true rfl) (Nat.le_of_ble_eq_true rfl) hz (fun H hN hz1 hk hS => ?_)
  replace k_h := k_h.kept (hk _ (k_h).lt)
  have k_0 := hN
  replace hz : H.size = sz + 1 := hz1
  clear hz1 hk
  refine zr_putF (pc := 15) S hin hK k_h rfl i_X3 tyX3 tyX3_ok nmX3 7 (by decide) (List.mem_of_getElem? (i := 6) rfl) rfl rfl rfl rfl (Nat.le_of_ble_eq_true rfl) hS hAh dX3_init_15 (fun H locs hN hz1 hk hS => ?_)
  replace k_0 := k_0.kept (hk _ (k_0).lt (by omega))
  replace k_h := hN
  replace hz : H.size = sz + 1 := hz1.trans hz
  clear hz1 hk
  refine W.widen (k := 1) (n := 168) (Nat.le_of_ble_eq_true rfl) (Nat.le_of_ble_eq_true rfl) ?_
  exact W.vret hx hb hr (fun tz ht hW => ⟨⟨(), rfl, trivial, by dsimp only; rw [ht]; exact ⟨hz, k_h, k_0⟩⟩, hS.F ht⟩) hS.2.2 dX3_init_18
