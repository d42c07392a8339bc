set_option maxHeartbeats 4000000 in
set_option maxRecDepth 100000 in
theorem ct_X4_init (l : Launch) (D : va_G) (cI cT : ClassId) (h sz : Nat) (hh : h < sz) : zMn l yX4_init wsX4_init ({ frames := 2, cells := 19, slots := 582, locals := 40 }) D cI cT [.ref h] sz (fun _ H => va_at D vwCl (h, .inr (4, [.null, .null, .null, .null, .int (zI 0), .int (zI 0), .int (zI 0), .int (zI 0), .int (zI 0)])) H) (fun H => H.size = sz + 19 ∧ zW D (oA h sz) 20 (sC cI (oA h sz) σ00) H) (fun q => q = h ∨ sz ≤ q) 19 582 := by
  refine Met.ofW (cc := cX4_init) (maxL := 1) (ret := none) (by decide) rfl ?_
  intro p_ e_ s m_ args below meth c_ s₁ B hml hv
  obtain ⟨rfl, hz, hK, k_h⟩ := hv
  have hx := B.exec
  have hb := B.bytes
  have hr := B.returns
  have hts := atoms_spec (ws := wsX4_init) B.pre
  have hown : s.vm.findClass RX4 = some m_.cls := findClass_of_methodNamed B.named
  have hlocks := B.notSynchronized
  have hin : meth.name = "<init>" := (name_of_methodNamed B.named B.method).1
  have S : CallFix p_ m_ c_ cX4_init 1 s _ wsX4_init RX4 := ⟨hx, hb, hml, hown, hts⟩
  have i_X0 : ∀ w ∈ u_ws RX0 TX0 3, w ∈ wsX4_init := fun _ h => List.mem_cons_of_mem _ (List.mem_append_left _ (List.mem_append_right _ h))
  have i_X1 : ∀ w ∈ u_ws RX1 TX1 6, w ∈ wsX4_init := fun _ h => List.mem_cons_of_mem _ (List.mem_append_right _ h)
  have i_X4 : ∀ w ∈ u_ws RX4 TX4 9, w ∈ wsX4_init := fun _ h => List.mem_cons_of_mem _ (List.mem_append_left _ (List.mem_append_left _ (List.mem_append_right _ h)))
  have i_X6 : ∀ w ∈ u_ws RX6 TX6 9, w ∈ wsX4_init := fun _ h => List.mem_cons_of_mem _ (List.mem_append_left _ (List.mem_append_left _ (List.mem_append_left _ (List.mem_append_right _ h))))
  generalize hAe : (fun (q : Nat) => q = h ∨ sz ≤ q) = A
  have hAs : ∀ q : Nat, sz ≤ q → A q := fun q hq => by rw [← hAe]; exact Or.inr hq
  have hAn : ∀ q : Nat, s.heap.size ≤ q → A q := fun q hq => hAs q (by omega)
  have hAh : A h := by rw [← hAe]; exact Or.inl rfl
  obtain ⟨H, hHe⟩ : ∃ H : Heap, H = s.heap := ⟨_, rfl⟩
  rw [← hHe] at k_h hz ⊢
  have hS : va_S A s.heap H [] := by rw [hHe]; exact va_S.rf
  have hl := lv_entry ([.ref h]) (n := 1) (Nat.le_of_ble_eq_true rfl)
  rw [lg_entry_eq]
  generalize (lg_sl ([.ref h]) ++ List.replicate (1 - (lg_sl ([.ref h])).length) Slot.unset).toArray = ls at hl ⊢
  have hl : lv_has ls 1 [(0, .ref h)] := hl
  refine lv_aload_n (pc := 0) hx hb dX4_init_0 rfl (lv_at hl 0 rfl) ?_
  refine zr_obj (pc := 1) hx hb hown (hml.trans hl.1.symm) (hts _ (List.mem_of_getElem? (i := 1) rfl)) (hts _ (List.mem_of_getElem? (i := 2) rfl)) (hts _ (List.mem_of_getElem? (i := 3) rfl)) (Nat.le_of_ble_eq_true rfl) (Nat.le_of_ble_eq_true rfl) dX4_init_1 ?_
  refine lv_aload_n (pc := 4) hx hb dX4_init_4 rfl (lv_at hl 0 rfl) ?_
  refine zr_new (pc := 5) (ci := 6) hx hb hts i_X6 tyX6 tyX6_ok hown (hts _ (List.mem_of_getElem? (i := 4) rfl)) (hts _ (List.mem_of_getElem? (i := 5) rfl)) (hts _ (List.mem_of_getElem? (i := 6) rfl)) hK hS rfl [.int (zI 0), .null, .null, .null, .null, .null, .null, .null, .null] (fun j hj => by rcases (show j = 0 ∨ j = 1 ∨ j = 2 ∨ j = 3 ∨ j = 4 ∨ j = 5 ∨ j = 6 ∨ j = 7 ∨ j = 8 by omega) with rfl | rfl | rfl | rfl | rfl | rfl | rfl | rfl | rfl <;> rfl) (Nat.le_of_ble_eq_true rfl) (Nat.le_of_ble_eq_true rfl) dX4_init_5 hz (fun H hN hz1 hk hS => ?_)
  replace k_h := k_h.kept (hk _ (k_h).lt)
  have k_0 := hN
  replace hz : H.size = sz + 1 := hz1
  clear hz1 hk
  refine lv_dup (pc := 8) hx hb dX4_init_8 rfl ?_
  refine zr_iN (pc := 9) (As := []) (rest := [.ref sz, .ref h]) (sz := sz + 1) S (ct_X6_init l D cI cT sz (sz + 1) (by omega)) ⟨va_cnB 0 hts gX4_init_X6_init_n11 rfl rfl rfl (zK_nest hK 1 rfl) (hts _ (List.mem_of_getElem? (i := 6) rfl)) (by decide +kernel) ⟨(Nat.le_of_ble_eq_true rfl), (Nat.le_of_ble_eq_true rfl)⟩, rfl, hts _ (List.mem_of_getElem? (i := 18) rfl)⟩ zs0 hK k_0 hz hS (fun q z => z.elim (fun e => hAs _ (by omega)) (fun e => hAs _ (by omega))) rfl hl.1 rfl (Nat.le_of_ble_eq_true rfl) dX4_init_9 ⟨(Nat.le_of_ble_eq_true rfl), (Nat.le_of_ble_eq_true rfl)⟩ (fun H locs hG hk hS => ?_)
  replace k_h := k_h.kept (hk _ (k_h).lt (by omega))
  obtain ⟨hz, k_0, k_1, k_2, k_3, k_4, k_5, k_6, k_7, k_8⟩ := hG
  have k_1 : va_at D vwCl (sz + 1, .inl (cI, 48, .inl (zf (fun _ => 0)))) H := k_1
  have k_2 : va_at D vwCl (sz + 2, .inl (cI, 16, .inl (zf (fun _ => 0)))) H := k_2
  have k_3 : va_at D vwCl (sz + 3, .inl (cI, 16, .inl (zf (fun _ => 0)))) H := k_3
  have k_4 : va_at D vwCl (sz + 4, .inl (cI, 16, .inl (zf (fun _ => 0)))) H := k_4
  have k_5 : va_at D vwCl (sz + 5, .inl (cI, 16, .inl (zf (fun _ => 0)))) H := k_5
  have k_6 : va_at D vwCl (sz + 6, .inl (cI, 16, .inl (zf (fun _ => 0)))) H := k_6
  have k_7 : va_at D vwCl (sz + 7, .inl (cI, 96, .inl (zf (fun _ => 0)))) H := k_7
  have k_8 : va_at D vwCl (sz + 8, .inl (cI, 96, .inl (zf (fun _ => 0)))) H := k_8
  have hz : H.size = sz + 9 := by omega
  refine zr_putF (pc := 12) S hin hK k_h rfl i_X4 tyX4 tyX4_ok nmX4 0 (by decide) (List.mem_of_getElem? (i := 7) rfl) rfl rfl rfl rfl (Nat.le_of_ble_eq_true rfl) hS hAh dX4_init_12 (fun H locs hN hz1 hk hS => ?_)
  replace k_0 := k_0.kept (hk _ (k_0).lt (by omega))
  replace k_1 := k_1.kept (hk _ (k_1).lt (by omega))
  replace k_2 := k_2.kept (hk _ (k_2).lt (by omega))
  replace k_3 := k_3.kept (hk _ (k_3).lt (by omega))
  replace k_4 := k_4.kept (hk _ (k_4).lt (by omega))
  replace k_5 := k_5.kept (hk _ (k_5).lt (by omega))
  replace k_6 := k_6.kept (hk _ (k_6).lt (by omega))
  replace k_7 := k_7.kept (hk _ (k_7).lt (by omega))
  replace k_8 := k_8.kept (hk _ (k_8).lt (by omega))
  replace k_h := hN
  replace hz : H.size = sz + 9 := hz1.trans hz
  clear hz1 hk
  refine lv_aload_n (pc := 15) hx hb dX4_init_15 rfl (lv_at hl 0 rfl) ?_
  refine zr_new (pc := 16) (ci := 0) hx hb hts i_X0 tyX0 tyX0_ok hown (hts _ (List.mem_of_getElem? (i := 8) rfl)) (hts _ (List.mem_of_getElem? (i := 9) rfl)) (hts _ (List.mem_of_getElem? (i := 10) rfl)) hK hS rfl [.int (zI 0), .null, .null] (fun j hj => by rcases (show j = 0 ∨ j = 1 ∨ j = 2 by omega) with rfl | rfl | rfl <;> rfl) (Nat.le_of_ble_eq_true rfl) (Nat.le_of_ble_eq_true rfl) dX4_init_16 hz (fun H hN hz1 hk hS => ?_)
  replace k_h := k_h.kept (hk _ (k_h).lt)
  replace k_0 := k_0.kept (hk _ (k_0).lt)
  replace k_1 := k_1.kept (hk _ (k_1).lt)
  replace k_2 := k_2.kept (hk _ (k_2).lt)
  replace k_3 := k_3.kept (hk _ (k_3).lt)
  replace k_4 := k_4.kept (hk _ (k_4).lt)
  replace k_5 := k_5.kept (hk _ (k_5).lt)
  replace k_6 := k_6.kept (hk _ (k_6).lt)
  replace k_7 := k_7.kept (hk _ (k_7).lt)
  replace k_8 := k_8.kept (hk _ (k_8).lt)
  have k_9 := hN
  replace hz : H.size = sz + 10 := hz1
  clear hz1 hk
  refine lv_dup (pc := 19) hx hb dX4_init_19 rfl ?_
  refine zr_iN (pc := 20) (As := []) (rest := [.ref (sz + 9), .ref h]) (sz := sz + 10) S (ct_X0_init l D cI cT (sz + 9) (sz + 10) (by omega)) ⟨va_cnB 0 hts gX4_init_X0_init_n20 rfl rfl rfl (zK_nest hK 2 rfl) (hts _ (List.mem_of_getElem? (i := 10) rfl)) (by decide +kernel) ⟨(Nat.le_of_ble_eq_true rfl), (Nat.le_of_ble_eq_true rfl)⟩, rfl, hts _ (List.mem_of_getElem? (i := 29) rfl)⟩ zs0 hK k_9 hz hS (fun q z => z.elim (fun e => hAs _ (by omega)) (fun e => hAs _ (by omega))) rfl hl.1 rfl (Nat.le_of_ble_eq_true rfl) dX4_init_20 ⟨(Nat.le_of_ble_eq_true rfl), (Nat.le_of_ble_eq_true rfl)⟩ (fun H locs hG hk hS => ?_)
  replace k_h := k_h.kept (hk _ (k_h).lt (by omega))
  replace k_0 := k_0.kept (hk _ (k_0).lt (by omega))
  replace k_1 := k_1.kept (hk _ (k_1).lt (by omega))
  replace k_2 := k_2.kept (hk _ (k_2).lt (by omega))
  replace k_3 := k_3.kept (hk _ (k_3).lt (by omega))
  replace k_4 := k_4.kept (hk _ (k_4).lt (by omega))
  replace k_5 := k_5.kept (hk _ (k_5).lt (by omega))
  replace k_6 := k_6.kept (hk _ (k_6).lt (by omega))
  replace k_7 := k_7.kept (hk _ (k_7).lt (by omega))
  replace k_8 := k_8.kept (hk _ (k_8).lt (by omega))
  obtain ⟨hz, k_9, k_10, k_11⟩ := hG
  have k_10 : va_at D vwCl (sz + 10, .inl (cI, 24, .inl (zf (fun _ => 0)))) H := k_10
  have k_11 : va_at D vwCl (sz + 11, .inl (cI, 96, .inl (zf (fun _ => 0)))) H := k_11
  have hz : H.size = sz + 12 := by omega
  refine zr_putF (pc := 23) S hin hK k_h rfl i_X4 tyX4 tyX4_ok nmX4 1 (by decide) (List.mem_of_getElem? (i := 11) rfl) rfl rfl rfl rfl (Nat.le_of_ble_eq_true rfl) hS hAh dX4_init_23 (fun H locs hN hz1 hk hS => ?_)
  replace k_0 := k_0.kept (hk _ (k_0).lt (by omega))
  replace k_1 := k_1.kept (hk _ (k_1).lt (by omega))
  replace k_2 := k_2.kept (hk _ (k_2).lt (by omega))
  replace k_3 := k_3.kept (hk _ (k_3).lt (by omega))
  replace k_4 := k_4.kept (hk _ (k_4).lt (by omega))
  replace k_5 := k_5.kept (hk _ (k_5).lt (by omega))
  replace k_6 := k_6.kept (hk _ (k_6).lt (by omega))
  replace k_7 := k_7.kept (hk _ (k_7).lt (by omega))
  replace k_8 := k_8.kept (hk _ (k_8).lt (by omega))
  replace k_9 := k_9.kept (hk _ (k_9).lt (by omega))
  replace k_10 := k_10.kept (hk _ (k_10).lt (by omega))
  replace k_11 := k_11.kept (hk _ (k_11).lt (by omega))
  replace k_h := hN
  replace hz : H.size = sz + 12 := hz1.trans hz
  clear hz1 hk
  refine lv_aload_n (pc := 26) hx hb dX4_init_26 rfl (lv_at hl 0 rfl) ?_
  refine zr_new (pc := 27) (ci := 1) hx hb hts i_X1 tyX1 tyX1_ok hown (hts _ (List.mem_of_getElem? (i := 12) rfl)) (hts _ (List.mem_of_getElem? (i := 13) rfl)) (hts _ (List.mem_of_getElem? (i := 14) rfl)) hK hS rfl [.int (zI 0), .null, .null, .null, .null, .null] (fun j hj => by rcases (show j = 0 ∨ j = 1 ∨ j = 2 ∨ j = 3 ∨ j = 4 ∨ j = 5 by omega) with rfl | rfl | rfl | rfl | rfl | rfl <;> rfl) (Nat.le_of_ble_eq_true rfl) (Nat.le_of_ble_eq_true rfl) dX4_init_27 hz (fun H hN hz1 hk hS => ?_)
  replace k_h := k_h.kept (hk _ (k_h).lt)
  replace k_0 := k_0.kept (hk _ (k_0).lt)
  replace k_1 := k_1.kept (hk _ (k_1).lt)
  replace k_2 := k_2.kept (hk _ (k_2).lt)
  replace k_3 := k_3.kept (hk _ (k_3).lt)
  replace k_4 := k_4.kept (hk _ (k_4).lt)
  replace k_5 := k_5.kept (hk _ (k_5).lt)
  replace k_6 := k_6.kept (hk _ (k_6).lt)
  replace k_7 := k_7.kept (hk _ (k_7).lt)
  replace k_8 := k_8.kept (hk _ (k_8).lt)
  replace k_9 := k_9.kept (hk _ (k_9).lt)
  replace k_10 := k_10.kept (hk _ (k_10).lt)
  replace k_11 := k_11.kept (hk _ (k_11).lt)
  have k_12 := hN
  replace hz : H.size = sz + 13 := hz1
  clear hz1 hk
  refine lv_dup (pc := 30) hx hb dX4_init_30 rfl ?_
  refine zr_iN (pc := 31) (As := []) (rest := [.ref (sz + 12), .ref h]) (sz := sz + 13) S (ct_X1_init l D cI cT (sz + 12) (sz + 13) (by omega)) ⟨va_cnB 0 hts gX4_init_X1_init_n27 rfl rfl rfl (zK_nest hK 3 rfl) (hts _ (List.mem_of_getElem? (i := 14) rfl)) (by decide +kernel) ⟨(Nat.le_of_ble_eq_true rfl), (Nat.le_of_ble_eq_true rfl)⟩, rfl, hts _ (List.mem_of_getElem? (i := 34) rfl)⟩ zs0 hK k_12 hz hS (fun q z => z.elim (fun e => hAs _ (by omega)) (fun e => hAs _ (by omega))) rfl hl.1 rfl (Nat.le_of_ble_eq_true rfl) dX4_init_31 ⟨(Nat.le_of_ble_eq_true rfl), (Nat.le_of_ble_eq_true rfl)⟩ (fun H locs hG hk hS => ?_)
  replace k_h := k_h.kept (hk _ (k_h).lt (by omega))
  replace k_0 := k_0.kept (hk _ (k_0).lt (by omega))
  replace k_1 := k_1.kept (hk _ (k_1).lt (by omega))
  replace k_2 := k_2.kept (hk _ (k_2).lt (by omega))
  replace k_3 := k_3.kept (hk _ (k_3).lt (by omega))
  replace k_4 := k_4.kept (hk _ (k_4).lt (by omega))
  replace k_5 := k_5.kept (hk _ (k_5).lt (by omega))
  replace k_6 := k_6.kept (hk _ (k_6).lt (by omega))
  replace k_7 := k_7.kept (hk _ (k_7).lt (by omega))
  replace k_8 := k_8.kept (hk _ (k_8).lt (by omega))
  replace k_9 := k_9.kept (hk _ (k_9).lt (by omega))
  replace k_10 := k_10.kept (hk _ (k_10).lt (by omega))
  replace k_11 := k_11.kept (hk _ (k_11).lt (by omega))
  obtain ⟨hz, k_12, k_13, k_14, k_15, k_16, k_17⟩ := hG
  have k_13 : va_at D vwCl (sz + 13, .inl (cI, 24, .inl (zf (fun _ => 0)))) H := k_13
  have k_14 : va_at D vwCl (sz + 14, .inl (cI, 24, .inl (zf (fun _ => 0)))) H := k_14
  have k_15 : va_at D vwCl (sz + 15, .inl (cI, 24, .inl (zf (fun _ => 0)))) H := k_15
  have k_16 : va_at D vwCl (sz + 16, .inl (cI, 24, .inl (zf (fun _ => 0)))) H := k_16
  have k_17 : va_at D vwCl (sz + 17, .inl (cI, 24, .inl (zf (fun _ => 0)))) H := k_17
  have hz : H.size = sz + 18 := by omega
  refine zr_putF (pc := 34) S hin hK k_h rfl i_X4 tyX4 tyX4_ok nmX4 2 (by decide) (List.mem_of_getElem? (i := 15) rfl) rfl rfl rfl rfl (Nat.le_of_ble_eq_true rfl) hS hAh dX4_init_34 (fun H locs hN hz1 hk hS => ?_)
  replace k_0 := k_0.kept (hk _ (k_0).lt (by omega))
  replace k_1 := k_1.kept (hk _ (k_1).lt (by omega))
  replace k_2 := k_2.kept (hk _ (k_2).lt (by omega))
  replace k_3 := k_3.kept (hk _ (k_3).lt (by omega))
  replace k_4 := k_4.kept (hk _ (k_4).lt (by omega))
  replace k_5 := k_5.kept (hk _ (k_5).lt (by omega))
  replace k_6 := k_6.kept (hk _ (k_6).lt (by omega))
  replace k_7 := k_7.kept (hk _ (k_7).lt (by omega))
  replace k_8 := k_8.kept (hk _ (k_8).lt (by omega))
  replace k_9 := k_9.kept (hk _ (k_9).lt (by omega))
  replace k_10 := k_10.kept (hk _ (k_10).lt (by omega))
  replace k_11 := k_11.kept (hk _ (k_11).lt (by omega))
  replace k_12 := k_12.kept (hk _ (k_12).lt (by omega))
  replace k_13 := k_13.kept (hk _ (k_13).lt (by omega))
  replace k_14 := k_14.kept (hk _ (k_14).lt (by omega))
  replace k_15 := k_15.kept (hk _ (k_15).lt (by omega))
  replace k_16 := k_16.kept (hk _ (k_16).lt (by omega))
  replace k_17 := k_17.kept (hk _ (k_17).lt (by omega))
  replace k_h := hN
  replace hz : H.size = sz + 18 := hz1.trans hz
  clear hz1 hk
  refine lv_aload_n (pc := 37) hx hb dX4_init_37 rfl (lv_at hl 0 rfl) ?_
  refine lv_iconst (pc := 38) (v := zI ((4 : Nat) : Int)) hx hb dX4_init_38 rfl ?_
  refine zr_newa (pc := 39) (n := 4) hx hb (hts _ (List.mem_of_getElem? (i := 16) rfl)) hK hS (by decide) dX4_init_39 (Nat.le_of_ble_eq_true rfl) (Nat.le_of_ble_eq_true rfl) hz (fun H hN hz1 hk hS => ?_)
  replace k_h := k_h.kept (hk _ (k_h).lt)
  replace k_0 := k_0.kept (hk _ (k_0).lt)
  replace k_1 := k_1.kept (hk _ (k_1).lt)
  replace k_2 := k_2.kept (hk _ (k_2).lt)
  replace k_3 := k_3.kept (hk _ (k_3).lt)
  replace k_4 := k_4.kept (hk _ (k_4).lt)
  replace k_5 := k_5.kept (hk _ (k_5).lt)
  replace k_6 := k_6.kept (hk _ (k_6).lt)
  replace k_7 := k_7.kept (hk _ (k_7).lt)
  replace k_8 := k_8.kept (hk _ (k_8).lt)
  replace k_9 := k_9.kept (hk _ (k_9).lt)
  replace k_10 := k_10.kept (hk _ (k_10).lt)
  replace k_11 := k_11.kept (hk _ (k_11).lt)
  replace k_12 := k_12.kept (hk _ (k_12).lt)
  replace k_13 := k_13.kept (hk _ (k_13).lt)
  replace k_14 := k_14.kept (hk _ (k_14).lt)
  replace k_15 := k_15.kept (hk _ (k_15).lt)
  replace k_16 := k_16.kept (hk _ (k_16).lt)
  replace k_17 := k_17.kept (hk _ (k_17).lt)
  have k_18 := hN
  replace hz : H.size = sz + 19 := hz1
  clear hz1 hk
  refine lv_dup (pc := 41) hx hb dX4_init_41 rfl ?_
  refine lv_iconst (pc := 42) (v := zI 0) hx hb dX4_init_42 rfl ?_
  refine lv_bipush (pc := 43) (v := zI 6) hx hb dX4_init_43 zc_bipush_6 ?_
  refine zr_ast (pc := 45) (k := 4) (i := 0) (v := 6) hx hb hK k_18 (by decide) (by decide) (by decide) hS (hAs _ (by omega)) dX4_init_45 (fun H locs hN hz1 hk hS => ?_)
  replace k_h := k_h.kept (hk _ (k_h).lt (by omega))
  replace k_0 := k_0.kept (hk _ (k_0).lt (by omega))
  replace k_1 := k_1.kept (hk _ (k_1).lt (by omega))
  replace k_2 := k_2.kept (hk _ (k_2).lt (by omega))
  replace k_3 := k_3.kept (hk _ (k_3).lt (by omega))
  replace k_4 := k_4.kept (hk _ (k_4).lt (by omega))
  replace k_5 := k_5.kept (hk _ (k_5).lt (by omega))
  replace k_6 := k_6.kept (hk _ (k_6).lt (by omega))
  replace k_7 := k_7.kept (hk _ (k_7).lt (by omega))
  replace k_8 := k_8.kept (hk _ (k_8).lt (by omega))
  replace k_9 := k_9.kept (hk _ (k_9).lt (by omega))
  replace k_10 := k_10.kept (hk _ (k_10).lt (by omega))
  replace k_11 := k_11.kept (hk _ (k_11).lt (by omega))
  replace k_12 := k_12.kept (hk _ (k_12).lt (by omega))
  replace k_13 := k_13.kept (hk _ (k_13).lt (by omega))
  replace k_14 := k_14.kept (hk _ (k_14).lt (by omega))
  replace k_15 := k_15.kept (hk _ (k_15).lt (by omega))
  replace k_16 := k_16.kept (hk _ (k_16).lt (by omega))
  replace k_17 := k_17.kept (hk _ (k_17).lt (by omega))
  replace k_18 := hN
  replace hz : H.size = sz + 19 := hz1.trans hz
  clear hz1 hk
  refine lv_dup (pc := 46) hx hb dX4_init_46 rfl ?_
  refine lv_iconst (pc := 47) (v := zI 1) hx hb dX4_init_47 rfl ?_
  refine lv_bipush (pc := 48) (v := zI 6) hx hb dX4_init_48 zc_bipush_6 ?_
  refine zr_ast (pc := 50) (k := 4) (i := 1) (v := 6) hx hb hK k_18 (by decide) (by decide) (by decide) hS (hAs _ (by omega)) dX4_init_50 (fun H locs hN hz1 hk hS => ?_)
  replace k_h := k_h.kept (hk _ (k_h).lt (by omega))
  replace k_0 := k_0.kept (hk _ (k_0).lt (by omega))
  replace k_1 := k_1.kept (hk _ (k_1).lt (by omega))
  replace k_2 := k_2.kept (hk _ (k_2).lt (by omega))
  replace k_3 := k_3.kept (hk _ (k_3).lt (by omega))
  replace k_4 := k_4.kept (hk _ (k_4).lt (by omega))
  replace k_5 := k_5.kept (hk _ (k_5).lt (by omega))
  replace k_6 := k_6.kept (hk _ (k_6).lt (by omega))
  replace k_7 := k_7.kept (hk _ (k_7).lt (by omega))
  replace k_8 := k_8.kept (hk _ (k_8).lt (by omega))
  replace k_9 := k_9.kept (hk _ (k_9).lt (by omega))
  replace k_10 := k_10.kept (hk _ (k_10).lt (by omega))
  replace k_11 := k_11.kept (hk _ (k_11).lt (by omega))
  replace k_12 := k_12.kept (hk _ (k_12).lt (by omega))
  replace k_13 := k_13.kept (hk _ (k_13).lt (by omega))
  replace k_14 := k_14.kept (hk _ (k_14).lt (by omega))
  replace k_15 := k_15.kept (hk _ (k_15).lt (by omega))
  replace k_16 := k_16.kept (hk _ (k_16).lt (by omega))
  replace k_17 := k_17.kept (hk _ (k_17).lt (by omega))
  replace k_18 := hN
  replace hz : H.size = sz + 19 := hz1.trans hz
  clear hz1 hk
  refine lv_dup (pc := 51) hx hb dX4_init_51 rfl ?_
  refine lv_iconst (pc := 52) (v := zI 2) hx hb dX4_init_52 rfl ?_
  refine lv_iconst (pc := 53) (v := zI 4) hx hb dX4_init_53 rfl ?_
  refine zr_ast (pc := 54) (k := 4) (i := 2) (v := 4) hx hb hK k_18 (by decide) (by decide) (by decide) hS (hAs _ (by omega)) dX4_init_54 (fun H locs hN hz1 hk hS => ?_)
  replace k_h := k_h.kept (hk _ (k_h).lt (by omega))
  replace k_0 := k_0.kept (hk _ (k_0).lt (by omega))
  replace k_1 := k_1.kept (hk _ (k_1).lt (by omega))
  replace k_2 := k_2.kept (hk _ (k_2).lt (by omega))
  replace k_3 := k_3.kept (hk _ (k_3).lt (by omega))
  replace k_4 := k_4.kept (hk _ (k_4).lt (by omega))
  replace k_5 := k_5.kept (hk _ (k_5).lt (by omega))
  replace k_6 := k_6.kept (hk _ (k_6).lt (by omega))
  replace k_7 := k_7.kept (hk _ (k_7).lt (by omega))
  replace k_8 := k_8.kept (hk _ (k_8).lt (by omega))
  replace k_9 := k_9.kept (hk _ (k_9).lt (by omega))
  replace k_10 := k_10.kept (hk _ (k_10).lt (by omega))
  replace k_11 := k_11.kept (hk _ (k_11).lt (by omega))
  replace k_12 := k_12.kept (hk _ (k_12).lt (by omega))
  replace k_13 := k_13.kept (hk _ (k_13).lt (by omega))
  replace k_14 := k_14.kept (hk _ (k_14).lt (by omega))
  replace k_15 := k_15.kept (hk _ (k_15).lt (by omega))
  replace k_16 := k_16.kept (hk _ (k_16).lt (by omega))
  replace k_17 := k_17.kept (hk _ (k_17).lt (by omega))
  replace k_18 := hN
  replace hz : H.size = sz + 19 := hz1.trans hz
  clear hz1 hk
  refine lv_dup (pc := 55) hx hb dX4_init_55 rfl ?_
  refine lv_iconst (pc := 56) (v := zI 3) hx hb dX4_init_56 rfl ?_
  refine lv_iconst (pc := 57) (v := zI 5) hx hb dX4_init_57 rfl ?_
  refine zr_ast (pc := 58) (k := 4) (i := 3) (v := 5) hx hb hK k_18 (by decide) (by decide) (by decide) hS (hAs _ (by omega)) dX4_init_58 (fun H locs hN hz1 hk hS => ?_)
  replace k_h := k_h.kept (hk _ (k_h).lt (by omega))
  replace k_0 := k_0.kept (hk _ (k_0).lt (by omega))
  replace k_1 := k_1.kept (hk _ (k_1).lt (by omega))
  replace k_2 := k_2.kept (hk _ (k_2).lt (by omega))
  replace k_3 := k_3.kept (hk _ (k_3).lt (by omega))
  replace k_4 := k_4.kept (hk _ (k_4).lt (by omega))
  replace k_5 := k_5.kept (hk _ (k_5).lt (by omega))
  replace k_6 := k_6.kept (hk _ (k_6).lt (by omega))
  replace k_7 := k_7.kept (hk _ (k_7).lt (by omega))
  replace k_8 := k_8.kept (hk _ (k_8).lt (by omega))
  replace k_9 := k_9.kept (hk _ (k_9).lt (by omega))
  replace k_10 := k_10.kept (hk _ (k_10).lt (by omega))
  replace k_11 := k_11.kept (hk _ (k_11).lt (by omega))
  replace k_12 := k_12.kept (hk _ (k_12).lt (by omega))
  replace k_13 := k_13.kept (hk _ (k_13).lt (by omega))
  replace k_14 := k_14.kept (hk _ (k_14).lt (by omega))
  replace k_15 := k_15.kept (hk _ (k_15).lt (by omega))
  replace k_16 := k_16.kept (hk _ (k_16).lt (by omega))
  replace k_17 := k_17.kept (hk _ (k_17).lt (by omega))
  replace k_18 := hN
  replace hz : H.size = sz + 19 := hz1.trans hz
  clear hz1 hk
  refine zr_putF (pc := 59) S hin hK k_h rfl i_X4 tyX4 tyX4_ok nmX4 3 (by decide) (List.mem_of_getElem? (i := 17) rfl) rfl rfl rfl rfl (Nat.le_of_ble_eq_true rfl) hS hAh dX4_init_59 (fun H locs hN hz1 hk hS => ?_)
  replace k_0 := k_0.kept (hk _ (k_0).lt (by omega))
  replace k_1 := k_1.kept (hk _ (k_1).lt (by omega))
  replace k_2 := k_2.kept (hk _ (k_2).lt (by omega))
  replace k_3 := k_3.kept (hk _ (k_3).lt (by omega))
  replace k_4 := k_4.kept (hk _ (k_4).lt (by omega))
  replace k_5 := k_5.kept (hk _ (k_5).lt (by omega))
  replace k_6 := k_6.kept (hk _ (k_6).lt (by omega))
  replace k_7 := k_7.kept (hk _ (k_7).lt (by omega))
  replace k_8 := k_8.kept (hk _ (k_8).lt (by omega))
  replace k_9 := k_9.kept (hk _ (k_9).lt (by omega))
  replace k_10 := k_10.kept (hk _ (k_10).lt (by omega))
  replace k_11 := k_11.kept (hk _ (k_11).lt (by omega))
  replace k_12 := k_12.kept (hk _ (k_12).lt (by omega))
  replace k_13 := k_13.kept (hk _ (k_13).lt (by omega))
  replace k_14 := k_14.kept (hk _ (k_14).lt (by omega))
  replace k_15 := k_15.kept (hk _ (k_15).lt (by omega))
  replace k_16 := k_16.kept (hk _ (k_16).lt (by omega))
  replace k_17 := k_17.kept (hk _ (k_17).lt (by omega))
  replace k_18 := k_18.kept (hk _ (k_18).lt (by omega))
  replace k_h := hN
  replace hz : H.size = sz + 19 := hz1.trans hz
  clear hz1 hk
  refine W.widen (k := 19) (n := 582) (Nat.le_of_ble_eq_true rfl) (Nat.le_of_ble_eq_true rfl) ?_
  have hWo : zW D (oA h sz) 20 (sC cI (oA h sz) σ00) H := fun k hk0 => by
    match k, hk0 with
    | 0, _ => exact k_h
    | 1, _ => exact k_0
    | 2, _ => exact k_9
    | 3, _ => exact k_12
    | 4, _ => exact k_18
    | 5, _ => exact k_1
    | 6, _ => exact k_2
    | 7, _ => exact k_3
    | 8, _ => exact k_4
    | 9, _ => exact k_5
    | 10, _ => exact k_6
    | 11, _ => exact k_7
    | 12, _ => exact k_8
    | 13, _ => exact k_10
    | 14, _ => exact k_11
    | 15, _ => exact k_13
    | 16, _ => exact k_14
    | 17, _ => exact k_15
    | 18, _ => exact k_16
    | 19, _ => exact k_17
    | k + 20, hk0 => exact absurd hk0 (by omega)
  exact W.vret hx hb hr (fun tz ht hW => ⟨⟨(), rfl, trivial, by dsimp only; rw [ht]; exact ⟨hz, hWo⟩⟩, hS.F ht⟩) hS.2.2 dX4_init_62
