set_option maxHeartbeats 4000000 in
set_option maxRecDepth 100000 in
theorem ct_X2_init (l : Launch) (D : va_G) (cI cT : ClassId) (h sz : Nat) (hh : h < sz) : zMn l yX2_init wsX2_init ({ frames := 3, cells := 101, slots := 2960, locals := 60 }) D cI cT [.ref h] sz (fun U H => va_at D vwCl (h, .inr (2, [.int (zI 0), .int (zI 0), .null])) H ∧ va_AO "CostumeStock$State" U) (fun H => H.size = sz + 101 ∧ va_at D vwCl (h, .inr (2, [.int (zI 0), .int (zI 0), .ref sz])) H ∧ va_at D vwCl (sz, .inl (cT, 5, .inr (.inr (.inr (.inr (fun j => some (sz + 1 + 20 * j))))))) H ∧ ∀ j : Nat, j < 5 → zW D (oA (sz + 1 + 20 * j) (sz + 2 + 20 * j)) 20 (sC cI (oA (sz + 1 + 20 * j) (sz + 2 + 20 * j)) σ00) H) (fun q => q = h ∨ sz ≤ q) 101 2960 := by
  refine Met.ofW (cc := cX2_init) (maxL := 2) (ret := none) (by decide) rfl ?_
  intro p_ e_ s m_ args below meth c_ s₁ B hml hv
  obtain ⟨rfl, hz, hK, k_h⟩ := hv
  have hx := B.exec
  have hb := B.bytes
  have hr := B.returns
  have hts := atoms_spec (ws := wsX2_init) B.pre
  have hown : s.vm.findClass RX2 = some m_.cls := findClass_of_methodNamed B.named
  have hlocks := B.notSynchronized
  have hin : meth.name = "<init>" := (name_of_methodNamed B.named B.method).1
  have S : CallFix p_ m_ c_ cX2_init 2 s _ wsX2_init RX2 := ⟨hx, hb, hml, hown, hts⟩
  have i_X0 : ∀ w ∈ u_ws RX0 TX0 3, w ∈ wsX2_init := fun _ h => List.mem_cons_of_mem _ (List.mem_append_left _ (List.mem_append_right _ h))
  have i_X1 : ∀ w ∈ u_ws RX1 TX1 6, w ∈ wsX2_init := fun _ h => List.mem_cons_of_mem _ (List.mem_append_right _ h)
  have i_X2 : ∀ w ∈ u_ws RX2 TX2 3, w ∈ wsX2_init := fun _ h => List.mem_cons_of_mem _ (List.mem_append_left _ (List.mem_append_left _ (List.mem_append_left _ (List.mem_append_left _ (List.mem_append_right _ h)))))
  have i_X4 : ∀ w ∈ u_ws RX4 TX4 9, w ∈ wsX2_init := fun _ h => List.mem_cons_of_mem _ (List.mem_append_left _ (List.mem_append_left _ (List.mem_append_left _ (List.mem_append_right _ h))))
  have i_X6 : ∀ w ∈ u_ws RX6 TX6 9, w ∈ wsX2_init := fun _ h => List.mem_cons_of_mem _ (List.mem_append_left _ (List.mem_append_left _ (List.mem_append_right _ h)))
  generalize hAe : (fun (q : Nat) => q = h ∨ sz ≤ q) = A
  have hAs : ∀ q : Nat, sz ≤ q → A q := fun q hq => by rw [← hAe]; exact Or.inr hq
  have hAn : ∀ q : Nat, s.heap.size ≤ q → A q := fun q hq => hAs q (by omega)
  have hAh : A h := by rw [← hAe]; exact Or.inl rfl
  obtain ⟨H, hHe⟩ : ∃ H : Heap, H = s.heap := ⟨_, rfl⟩
  rw [← hHe] at k_h hz ⊢
  have hS : va_S A s.heap H [] := by rw [hHe]; exact va_S.rf
  have hAO := k_h.2
  replace k_h := k_h.1
  have hl := lv_entry ([.ref h]) (n := 2) (Nat.le_of_ble_eq_true rfl)
  rw [lg_entry_eq]
  generalize (lg_sl ([.ref h]) ++ List.replicate (2 - (lg_sl ([.ref h])).length) Slot.unset).toArray = ls at hl ⊢
  have hl : lv_has ls 2 [(0, .ref h)] := hl
  refine lv_aload_n (pc := 0) hx hb dX2_init_0 rfl (lv_at hl 0 rfl) ?_
  refine zr_obj (pc := 1) hx hb hown (hml.trans hl.1.symm) (hts _ (List.mem_of_getElem? (i := 1) rfl)) (hts _ (List.mem_of_getElem? (i := 2) rfl)) (hts _ (List.mem_of_getElem? (i := 3) rfl)) (Nat.le_of_ble_eq_true rfl) (Nat.le_of_ble_eq_true rfl) dX2_init_1 ?_
  refine lv_aload_n (pc := 4) hx hb dX2_init_4 rfl (lv_at hl 0 rfl) ?_
  refine lv_iconst (pc := 5) (v := zI ((5 : Nat) : Int)) hx hb dX2_init_5 rfl ?_
  refine zr_anew (pc := 6) (n := 5) hx hb hown (hts _ (List.mem_of_getElem? (i := 4) rfl)) hAO hK hS (by decide) dX2_init_6 (Nat.le_of_ble_eq_true rfl) (Nat.le_of_ble_eq_true rfl) hz (fun H hN hz1 hk hS => ?_)
  replace k_h := k_h.kept (hk _ (k_h).lt)
  have k_0 := hN
  replace hz : H.size = sz + 1 := hz1
  clear hz1 hk
  refine zr_putF (pc := 9) S hin hK k_h rfl i_X2 tyX2 tyX2_ok nmX2 2 (by decide) (List.mem_of_getElem? (i := 5) rfl) rfl rfl rfl rfl (Nat.le_of_ble_eq_true rfl) hS hAh dX2_init_9 (fun H locs hN hz1 hk hS => ?_)
  replace k_0 := k_0.kept (hk _ (k_0).lt (by omega))
  replace k_h := hN
  replace hz : H.size = sz + 1 := hz1.trans hz
  clear hz1 hk
  refine lv_iconst (pc := 12) (v := zI 0) hx hb dX2_init_12 rfl ?_
  refine lv_istore_n (pc := 13) (lv' := [(1, .int (zI 0)), (0, .ref h)]) hx hb dX2_init_13 rfl hl (by decide) rfl (fun ls hl => ?_)
  refine lv_iload_n (pc := 14) hx hb dX2_init_14 rfl (lv_at hl 0 rfl) ?_
  refine lv_aload_n (pc := 15) hx hb dX2_init_15 rfl (lv_at hl 1 rfl) ?_
  refine zr_get (pc := 16) S hK k_h rfl i_X2 2 (by decide) (List.mem_of_getElem? (i := 5) rfl) rfl dX2_init_16 ?_
  refine zr_aalen (pc := 19) hx hb hK k_0 dX2_init_19 ?_
  refine zr_icmp_ge (pc := 20) (tgt := 42) hx hb dX2_init_20 (by decide) (by decide) (by decide) (fun z => absurd z (by decide)) (fun _ => ?_)
  refine lv_aload_n (pc := 23) hx hb dX2_init_23 rfl (lv_at hl 1 rfl) ?_
  refine zr_get (pc := 24) S hK k_h rfl i_X2 2 (by decide) (List.mem_of_getElem? (i := 5) rfl) rfl dX2_init_24 ?_
  refine lv_iload_n (pc := 27) hx hb dX2_init_27 rfl (lv_at hl 0 rfl) ?_
  refine zr_new (pc := 28) (ci := 4) hx hb hts i_X4 tyX4 tyX4_ok hown (hts _ (List.mem_of_getElem? (i := 4) rfl)) (hts _ (List.mem_of_getElem? (i := 6) rfl)) (hts _ (List.mem_of_getElem? (i := 7) rfl)) hK hS rfl [.null, .null, .null, .null, .int (zI 0), .int (zI 0), .int (zI 0), .int (zI 0), .int (zI 0)] (fun j hj => by rcases (show j = 0 ∨ j = 1 ∨ j = 2 ∨ j = 3 ∨ j = 4 ∨ j = 5 ∨ j = 6 ∨ j = 7 ∨ j = 8 by omega) with rfl | rfl | rfl | rfl | rfl | rfl | rfl | rfl | rfl <;> rfl) (Nat.le_of_ble_eq_true rfl) (Nat.le_of_ble_eq_true rfl) dX2_init_28 hz (fun H hN hz1 hk hS => ?_)
  replace k_h := k_h.kept (hk _ (k_h).lt)
  replace k_0 := k_0.kept (hk _ (k_0).lt)
  have k_1 := hN
  replace hz : H.size = sz + 2 := hz1
  clear hz1 hk
  refine lv_dup (pc := 31) hx hb dX2_init_31 rfl ?_
  refine zr_iN (pc := 32) (As := []) (rest := [.ref (sz + 1), .int (zI 0), .ref sz]) (sz := sz + 2) S (ct_X4_init l D cI cT (sz + 1) (sz + 2) (by omega)) ⟨va_cnB 0 hts gX2_init_X4_init_n17 rfl rfl rfl (zK_nest hK 4 rfl) (hts _ (List.mem_of_getElem? (i := 7) rfl)) (by decide +kernel) ⟨(Nat.le_of_ble_eq_true rfl), (Nat.le_of_ble_eq_true rfl)⟩, rfl, hts _ (List.mem_of_getElem? (i := 8) rfl)⟩ zs0 hK k_1 hz hS (fun q z => z.elim (fun e => hAs _ (by omega)) (fun e => hAs _ (by omega))) rfl hl.1 rfl (Nat.le_of_ble_eq_true rfl) dX2_init_32 ⟨(Nat.le_of_ble_eq_true rfl), (Nat.le_of_ble_eq_true rfl)⟩ (fun H locs hG hk hS => ?_)
  replace k_h := k_h.kept (hk _ (k_h).lt (by omega))
  replace k_0 := k_0.kept (hk _ (k_0).lt (by omega))
  clear hz hk k_1
  obtain ⟨hz, w_0⟩ := hG
  replace hz : H.size = sz + 21 := hz
  refine zr_aast (pc := 35) (n := 5) (j := 0) hx hb hK k_0 (w_0 0 (by decide)) (by decide) (by decide) hS (hAs _ (by omega)) dX2_init_35 (fun H locs hN hz1 hk hS => ?_)
  replace k_h := k_h.kept (hk _ (k_h).lt (by omega))
  replace w_0 : zW D (oA (sz + 1) (sz + 2)) 20 (sC cI (oA (sz + 1) (sz + 2)) σ00) H := fun k hk0 => (w_0 k hk0).kept (hk _ (w_0 k hk0).lt (by have := oA_r (h := (sz + 1)) (sz := (sz + 2)) (by omega) hk0; omega))
  replace k_0 := hN
  replace hz : H.size = sz + 21 := hz1.trans hz
  clear hz1 hk
  refine zr_iinc (pc := 36) (d := 1) (lv' := [(1, .int (zI 1)), (0, .ref h)]) hx hb dX2_init_36 hl (k := 0) rfl rfl (by decide) rfl (fun ls hl => ?_)
  refine lv_goto (pc := 39) (tgt := 14) hx hb dX2_init_39 (by decide) ?_
  refine lv_iload_n (pc := 14) hx hb dX2_init_14 rfl (lv_at hl 0 rfl) ?_
  refine lv_aload_n (pc := 15) hx hb dX2_init_15 rfl (lv_at hl 1 rfl) ?_
  refine zr_get (pc := 16) S hK k_h rfl i_X2 2 (by decide) (List.mem_of_getElem? (i := 5) rfl) rfl dX2_init_16 ?_
  refine zr_aalen (pc := 19) hx hb hK k_0 dX2_init_19 ?_
  refine zr_icmp_ge (pc := 20) (tgt := 42) hx hb dX2_init_20 (by decide) (by decide) (by decide) (fun z => absurd z (by decide)) (fun _ => ?_)
  refine lv_aload_n (pc := 23) hx hb dX2_init_23 rfl (lv_at hl 1 rfl) ?_
  refine zr_get (pc := 24) S hK k_h rfl i_X2 2 (by decide) (List.mem_of_getElem? (i := 5) rfl) rfl dX2_init_24 ?_
  refine lv_iload_n (pc := 27) hx hb dX2_init_27 rfl (lv_at hl 0 rfl) ?_
  refine zr_new (pc := 28) (ci := 4) hx hb hts i_X4 tyX4 tyX4_ok hown (hts _ (List.mem_of_getElem? (i := 4) rfl)) (hts _ (List.mem_of_getElem? (i := 6) rfl)) (hts _ (List.mem_of_getElem? (i := 7) rfl)) hK hS rfl [.null, .null, .null, .null, .int (zI 0), .int (zI 0), .int (zI 0), .int (zI 0), .int (zI 0)] (fun j hj => by rcases (show j = 0 ∨ j = 1 ∨ j = 2 ∨ j = 3 ∨ j = 4 ∨ j = 5 ∨ j = 6 ∨ j = 7 ∨ j = 8 by omega) with rfl | rfl | rfl | rfl | rfl | rfl | rfl | rfl | rfl <;> rfl) (Nat.le_of_ble_eq_true rfl) (Nat.le_of_ble_eq_true rfl) dX2_init_28 hz (fun H hN hz1 hk hS => ?_)
  replace k_h := k_h.kept (hk _ (k_h).lt)
  replace k_0 := k_0.kept (hk _ (k_0).lt)
  replace w_0 : zW D (oA (sz + 1) (sz + 2)) 20 (sC cI (oA (sz + 1) (sz + 2)) σ00) H := fun k hk0 => (w_0 k hk0).kept (hk _ (w_0 k hk0).lt)
  have k_21 := hN
  replace hz : H.size = sz + 22 := hz1
  clear hz1 hk
  refine lv_dup (pc := 31) hx hb dX2_init_31 rfl ?_
  refine zr_iN (pc := 32) (As := []) (rest := [.ref (sz + 21), .int (zI 1), .ref sz]) (sz := sz + 22) S (ct_X4_init l D cI cT (sz + 21) (sz + 22) (by omega)) ⟨va_cnB 0 hts gX2_init_X4_init_n17 rfl rfl rfl (zK_nest hK 4 rfl) (hts _ (List.mem_of_getElem? (i := 7) rfl)) (by decide +kernel) ⟨(Nat.le_of_ble_eq_true rfl), (Nat.le_of_ble_eq_true rfl)⟩, rfl, hts _ (List.mem_of_getElem? (i := 8) rfl)⟩ zs0 hK k_21 hz hS (fun q z => z.elim (fun e => hAs _ (by omega)) (fun e => hAs _ (by omega))) rfl hl.1 rfl (Nat.le_of_ble_eq_true rfl) dX2_init_32 ⟨(Nat.le_of_ble_eq_true rfl), (Nat.le_of_ble_eq_true rfl)⟩ (fun H locs hG hk hS => ?_)
  replace k_h := k_h.kept (hk _ (k_h).lt (by omega))
  replace k_0 := k_0.kept (hk _ (k_0).lt (by omega))
  replace w_0 : zW D (oA (sz + 1) (sz + 2)) 20 (sC cI (oA (sz + 1) (sz + 2)) σ00) H := fun k hk0 => (w_0 k hk0).kept (hk _ (w_0 k hk0).lt (by have := oA_r (h := (sz + 1)) (sz := (sz + 2)) (by omega) hk0; omega))
  clear hz hk k_21
  obtain ⟨hz, w_1⟩ := hG
  replace hz : H.size = sz + 41 := hz
  refine zr_aast (pc := 35) (n := 5) (j := 1) hx hb hK k_0 (w_1 0 (by decide)) (by decide) (by decide) hS (hAs _ (by omega)) dX2_init_35 (fun H locs hN hz1 hk hS => ?_)
  replace k_h := k_h.kept (hk _ (k_h).lt (by omega))
  replace w_0 : zW D (oA (sz + 1) (sz + 2)) 20 (sC cI (oA (sz + 1) (sz + 2)) σ00) H := fun k hk0 => (w_0 k hk0).kept (hk _ (w_0 k hk0).lt (by have := oA_r (h := (sz + 1)) (sz := (sz + 2)) (by omega) hk0; omega))
  replace w_1 : zW D (oA (sz + 21) (sz + 22)) 20 (sC cI (oA (sz + 21) (sz + 22)) σ00) H := fun k hk0 => (w_1 k hk0).kept (hk _ (w_1 k hk0).lt (by have := oA_r (h := (sz + 21)) (sz := (sz + 22)) (by omega) hk0; omega))
  replace k_0 := hN
  replace hz : H.size = sz + 41 := hz1.trans hz
  clear hz1 hk
  refine zr_iinc (pc := 36) (d := 2) (lv' := [(1, .int (zI 2)), (0, .ref h)]) hx hb dX2_init_36 hl (k := 0) rfl rfl (by decide) rfl (fun ls hl => ?_)
  refine lv_goto (pc := 39) (tgt := 14) hx hb dX2_init_39 (by decide) ?_
  refine lv_iload_n (pc := 14) hx hb dX2_init_14 rfl (lv_at hl 0 rfl) ?_
  refine lv_aload_n (pc := 15) hx hb dX2_init_15 rfl (lv_at hl 1 rfl) ?_
  refine zr_get (pc := 16) S hK k_h rfl i_X2 2 (by decide) (List.mem_of_getElem? (i := 5) rfl) rfl dX2_init_16 ?_
  refine zr_aalen (pc := 19) hx hb hK k_0 dX2_init_19 ?_
  refine zr_icmp_ge (pc := 20) (tgt := 42) hx hb dX2_init_20 (by decide) (by decide) (by decide) (fun z => absurd z (by decide)) (fun _ => ?_)
  refine lv_aload_n (pc := 23) hx hb dX2_init_23 rfl (lv_at hl 1 rfl) ?_
  refine zr_get (pc := 24) S hK k_h rfl i_X2 2 (by decide) (List.mem_of_getElem? (i := 5) rfl) rfl dX2_init_24 ?_
  refine lv_iload_n (pc := 27) hx hb dX2_init_27 rfl (lv_at hl 0 rfl) ?_
  refine zr_new (pc := 28) (ci := 4) hx hb hts i_X4 tyX4 tyX4_ok hown (hts _ (List.mem_of_getElem? (i := 4) rfl)) (hts _ (List.mem_of_getElem? (i := 6) rfl)) (hts _ (List.mem_of_getElem? (i := 7) rfl)) hK hS rfl [.null, .null, .null, .null, .int (zI 0), .int (zI 0), .int (zI 0), .int (zI 0), .int (zI 0)] (fun j hj => by rcases (show j = 0 ∨ j = 1 ∨ j = 2 ∨ j = 3 ∨ j = 4 ∨ j = 5 ∨ j = 6 ∨ j = 7 ∨ j = 8 by omega) with rfl | rfl | rfl | rfl | rfl | rfl | rfl | rfl | rfl <;> rfl) (Nat.le_of_ble_eq_true rfl) (Nat.le_of_ble_eq_true rfl) dX2_init_28 hz (fun H hN hz1 hk hS => ?_)
  replace k_h := k_h.kept (hk _ (k_h).lt)
  replace k_0 := k_0.kept (hk _ (k_0).lt)
  replace w_0 : zW D (oA (sz + 1) (sz + 2)) 20 (sC cI (oA (sz + 1) (sz + 2)) σ00) H := fun k hk0 => (w_0 k hk0).kept (hk _ (w_0 k hk0).lt)
  replace w_1 : zW D (oA (sz + 21) (sz + 22)) 20 (sC cI (oA (sz + 21) (sz + 22)) σ00) H := fun k hk0 => (w_1 k hk0).kept (hk _ (w_1 k hk0).lt)
  have k_41 := hN
  replace hz : H.size = sz + 42 := hz1
  clear hz1 hk
  refine lv_dup (pc := 31) hx hb dX2_init_31 rfl ?_
  refine zr_iN (pc := 32) (As := []) (rest := [.ref (sz + 41), .int (zI 2), .ref sz]) (sz := sz + 42) S (ct_X4_init l D cI cT (sz + 41) (sz + 42) (by omega)) ⟨va_cnB 0 hts gX2_init_X4_init_n17 rfl rfl rfl (zK_nest hK 4 rfl) (hts _ (List.mem_of_getElem? (i := 7) rfl)) (by decide +kernel) ⟨(Nat.le_of_ble_eq_true rfl), (Nat.le_of_ble_eq_true rfl)⟩, rfl, hts _ (List.mem_of_getElem? (i := 8) rfl)⟩ zs0 hK k_41 hz hS (fun q z => z.elim (fun e => hAs _ (by omega)) (fun e => hAs _ (by omega))) rfl hl.1 rfl (Nat.le_of_ble_eq_true rfl) dX2_init_32 ⟨(Nat.le_of_ble_eq_true rfl), (Nat.le_of_ble_eq_true rfl)⟩ (fun H locs hG hk hS => ?_)
  replace k_h := k_h.kept (hk _ (k_h).lt (by omega))
  replace k_0 := k_0.kept (hk _ (k_0).lt (by omega))
  replace w_0 : zW D (oA (sz + 1) (sz + 2)) 20 (sC cI (oA (sz + 1) (sz + 2)) σ00) H := fun k hk0 => (w_0 k hk0).kept (hk _ (w_0 k hk0).lt (by have := oA_r (h := (sz + 1)) (sz := (sz + 2)) (by omega) hk0; omega))
  replace w_1 : zW D (oA (sz + 21) (sz + 22)) 20 (sC cI (oA (sz + 21) (sz + 22)) σ00) H := fun k hk0 => (w_1 k hk0).kept (hk _ (w_1 k hk0).lt (by have := oA_r (h := (sz + 21)) (sz := (sz + 22)) (by omega) hk0; omega))
  clear hz hk k_41
  obtain ⟨hz, w_2⟩ := hG
  replace hz : H.size = sz + 61 := hz
  refine zr_aast (pc := 35) (n := 5) (j := 2) hx hb hK k_0 (w_2 0 (by decide)) (by decide) (by decide) hS (hAs _ (by omega)) dX2_init_35 (fun H locs hN hz1 hk hS => ?_)
  replace k_h := k_h.kept (hk _ (k_h).lt (by omega))
  replace w_0 : zW D (oA (sz + 1) (sz + 2)) 20 (sC cI (oA (sz + 1) (sz + 2)) σ00) H := fun k hk0 => (w_0 k hk0).kept (hk _ (w_0 k hk0).lt (by have := oA_r (h := (sz + 1)) (sz := (sz + 2)) (by omega) hk0; omega))
  replace w_1 : zW D (oA (sz + 21) (sz + 22)) 20 (sC cI (oA (sz + 21) (sz + 22)) σ00) H := fun k hk0 => (w_1 k hk0).kept (hk _ (w_1 k hk0).lt (by have := oA_r (h := (sz + 21)) (sz := (sz + 22)) (by omega) hk0; omega))
  replace w_2 : zW D (oA (sz + 41) (sz + 42)) 20 (sC cI (oA (sz + 41) (sz + 42)) σ00) H := fun k hk0 => (w_2 k hk0).kept (hk _ (w_2 k hk0).lt (by have := oA_r (h := (sz + 41)) (sz := (sz + 42)) (by omega) hk0; omega))
  replace k_0 := hN
  replace hz : H.size = sz + 61 := hz1.trans hz
  clear hz1 hk
  refine zr_iinc (pc := 36) (d := 3) (lv' := [(1, .int (zI 3)), (0, .ref h)]) hx hb dX2_init_36 hl (k := 0) rfl rfl (by decide) rfl (fun ls hl => ?_)
  refine lv_goto (pc := 39) (tgt := 14) hx hb dX2_init_39 (by decide) ?_
  refine lv_iload_n (pc := 14) hx hb dX2_init_14 rfl (lv_at hl 0 rfl) ?_
  refine lv_aload_n (pc := 15) hx hb dX2_init_15 rfl (lv_at hl 1 rfl) ?_
  refine zr_get (pc := 16) S hK k_h rfl i_X2 2 (by decide) (List.mem_of_getElem? (i := 5) rfl) rfl dX2_init_16 ?_
  refine zr_aalen (pc := 19) hx hb hK k_0 dX2_init_19 ?_
  refine zr_icmp_ge (pc := 20) (tgt := 42) hx hb dX2_init_20 (by decide) (by decide) (by decide) (fun z => absurd z (by decide)) (fun _ => ?_)
  refine lv_aload_n (pc := 23) hx hb dX2_init_23 rfl (lv_at hl 1 rfl) ?_
  refine zr_get (pc := 24) S hK k_h rfl i_X2 2 (by decide) (List.mem_of_getElem? (i := 5) rfl) rfl dX2_init_24 ?_
  refine lv_iload_n (pc := 27) hx hb dX2_init_27 rfl (lv_at hl 0 rfl) ?_
  refine zr_new (pc := 28) (ci := 4) hx hb hts i_X4 tyX4 tyX4_ok hown (hts _ (List.mem_of_getElem? (i := 4) rfl)) (hts _ (List.mem_of_getElem? (i := 6) rfl)) (hts _ (List.mem_of_getElem? (i := 7) rfl)) hK hS rfl [.null, .null, .null, .null, .int (zI 0), .int (zI 0), .int (zI 0), .int (zI 0), .int (zI 0)] (fun j hj => by rcases (show j = 0 ∨ j = 1 ∨ j = 2 ∨ j = 3 ∨ j = 4 ∨ j = 5 ∨ j = 6 ∨ j = 7 ∨ j = 8 by omega) with rfl | rfl | rfl | rfl | rfl | rfl | rfl | rfl | rfl <;> rfl) (Nat.le_of_ble_eq_true rfl) (Nat.le_of_ble_eq_true rfl) dX2_init_28 hz (fun H hN hz1 hk hS => ?_)
  replace k_h := k_h.kept (hk _ (k_h).lt)
  replace k_0 := k_0.kept (hk _ (k_0).lt)
  replace w_0 : zW D (oA (sz + 1) (sz + 2)) 20 (sC cI (oA (sz + 1) (sz + 2)) σ00) H := fun k hk0 => (w_0 k hk0).kept (hk _ (w_0 k hk0).lt)
  replace w_1 : zW D (oA (sz + 21) (sz + 22)) 20 (sC cI (oA (sz + 21) (sz + 22)) σ00) H := fun k hk0 => (w_1 k hk0).kept (hk _ (w_1 k hk0).lt)
  replace w_2 : zW D (oA (sz + 41) (sz + 42)) 20 (sC cI (oA (sz + 41) (sz + 42)) σ00) H := fun k hk0 => (w_2 k hk0).kept (hk _ (w_2 k hk0).lt)
  have k_61 := hN
  replace hz : H.size = sz + 62 := hz1
  clear hz1 hk
  refine lv_dup (pc := 31) hx hb dX2_init_31 rfl ?_
  refine zr_iN (pc := 32) (As := []) (rest := [.ref (sz + 61), .int (zI 3), .ref sz]) (sz := sz + 62) S (ct_X4_init l D cI cT (sz + 61) (sz + 62) (by omega)) ⟨va_cnB 0 hts gX2_init_X4_init_n17 rfl rfl rfl (zK_nest hK 4 rfl) (hts _ (List.mem_of_getElem? (i := 7) rfl)) (by decide +kernel) ⟨(Nat.le_of_ble_eq_true rfl), (Nat.le_of_ble_eq_true rfl)⟩, rfl, hts _ (List.mem_of_getElem? (i := 8) rfl)⟩ zs0 hK k_61 hz hS (fun q z => z.elim (fun e => hAs _ (by omega)) (fun e => hAs _ (by omega))) rfl hl.1 rfl (Nat.le_of_ble_eq_true rfl) dX2_init_32 ⟨(Nat.le_of_ble_eq_true rfl), (Nat.le_of_ble_eq_true rfl)⟩ (fun H locs hG hk hS => ?_)
  replace k_h := k_h.kept (hk _ (k_h).lt (by omega))
  replace k_0 := k_0.kept (hk _ (k_0).lt (by omega))
  replace w_0 : zW D (oA (sz + 1) (sz + 2)) 20 (sC cI (oA (sz + 1) (sz + 2)) σ00) H := fun k hk0 => (w_0 k hk0).kept (hk _ (w_0 k hk0).lt (by have := oA_r (h := (sz + 1)) (sz := (sz + 2)) (by omega) hk0; omega))
  replace w_1 : zW D (oA (sz + 21) (sz + 22)) 20 (sC cI (oA (sz + 21) (sz + 22)) σ00) H := fun k hk0 => (w_1 k hk0).kept (hk _ (w_1 k hk0).lt (by have := oA_r (h := (sz + 21)) (sz := (sz + 22)) (by omega) hk0; omega))
  replace w_2 : zW D (oA (sz + 41) (sz + 42)) 20 (sC cI (oA (sz + 41) (sz + 42)) σ00) H := fun k hk0 => (w_2 k hk0).kept (hk _ (w_2 k hk0).lt (by have := oA_r (h := (sz + 41)) (sz := (sz + 42)) (by omega) hk0; omega))
  clear hz hk k_61
  obtain ⟨hz, w_3⟩ := hG
  replace hz : H.size = sz + 81 := hz
  refine zr_aast (pc := 35) (n := 5) (j := 3) hx hb hK k_0 (w_3 0 (by decide)) (by decide) (by decide) hS (hAs _ (by omega)) dX2_init_35 (fun H locs hN hz1 hk hS => ?_)
  replace k_h := k_h.kept (hk _ (k_h).lt (by omega))
  replace w_0 : zW D (oA (sz + 1) (sz + 2)) 20 (sC cI (oA (sz + 1) (sz + 2)) σ00) H := fun k hk0 => (w_0 k hk0).kept (hk _ (w_0 k hk0).lt (by have := oA_r (h := (sz + 1)) (sz := (sz + 2)) (by omega) hk0; omega))
  replace w_1 : zW D (oA (sz + 21) (sz + 22)) 20 (sC cI (oA (sz + 21) (sz + 22)) σ00) H := fun k hk0 => (w_1 k hk0).kept (hk _ (w_1 k hk0).lt (by have := oA_r (h := (sz + 21)) (sz := (sz + 22)) (by omega) hk0; omega))
  replace w_2 : zW D (oA (sz + 41) (sz + 42)) 20 (sC cI (oA (sz + 41) (sz + 42)) σ00) H := fun k hk0 => (w_2 k hk0).kept (hk _ (w_2 k hk0).lt (by have := oA_r (h := (sz + 41)) (sz := (sz + 42)) (by omega) hk0; omega))
  replace w_3 : zW D (oA (sz + 61) (sz + 62)) 20 (sC cI (oA (sz + 61) (sz + 62)) σ00) H := fun k hk0 => (w_3 k hk0).kept (hk _ (w_3 k hk0).lt (by have := oA_r (h := (sz + 61)) (sz := (sz + 62)) (by omega) hk0; omega))
  replace k_0 := hN
  replace hz : H.size = sz + 81 := hz1.trans hz
  clear hz1 hk
  refine zr_iinc (pc := 36) (d := 4) (lv' := [(1, .int (zI 4)), (0, .ref h)]) hx hb dX2_init_36 hl (k := 0) rfl rfl (by decide) rfl (fun ls hl => ?_)
  refine lv_goto (pc := 39) (tgt := 14) hx hb dX2_init_39 (by decide) ?_
  refine lv_iload_n (pc := 14) hx hb dX2_init_14 rfl (lv_at hl 0 rfl) ?_
  refine lv_aload_n (pc := 15) hx hb dX2_init_15 rfl (lv_at hl 1 rfl) ?_
  refine zr_get (pc := 16) S hK k_h rfl i_X2 2 (by decide) (List.mem_of_getElem? (i := 5) rfl) rfl dX2_init_16 ?_
  refine zr_aalen (pc := 19) hx hb hK k_0 dX2_init_19 ?_
  refine zr_icmp_ge (pc := 20) (tgt := 42) hx hb dX2_init_20 (by decide) (by decide) (by decide) (fun z => absurd z (by decide)) (fun _ => ?_)
  refine lv_aload_n (pc := 23) hx hb dX2_init_23 rfl (lv_at hl 1 rfl) ?_
  refine zr_get (pc := 24) S hK k_h rfl i_X2 2 (by decide) (List.mem_of_getElem? (i := 5) rfl) rfl dX2_init_24 ?_
  refine lv_iload_n (pc := 27) hx hb dX2_init_27 rfl (lv_at hl 0 rfl) ?_
  refine zr_new (pc := 28) (ci := 4) hx hb hts i_X4 tyX4 tyX4_ok hown (hts _ (List.mem_of_getElem? (i := 4) rfl)) (hts _ (List.mem_of_getElem? (i := 6) rfl)) (hts _ (List.mem_of_getElem? (i := 7) rfl)) hK hS rfl [.null, .null, .null, .null, .int (zI 0), .int (zI 0), .int (zI 0), .int (zI 0), .int (zI 0)] (fun j hj => by rcases (show j = 0 ∨ j = 1 ∨ j = 2 ∨ j = 3 ∨ j = 4 ∨ j = 5 ∨ j = 6 ∨ j = 7 ∨ j = 8 by omega) with rfl | rfl | rfl | rfl | rfl | rfl | rfl | rfl | rfl <;> rfl) (Nat.le_of_ble_eq_true rfl) (Nat.le_of_ble_eq_true rfl) dX2_init_28 hz (fun H hN hz1 hk hS => ?_)
  replace k_h := k_h.kept (hk _ (k_h).lt)
  replace k_0 := k_0.kept (hk _ (k_0).lt)
  replace w_0 : zW D (oA (sz + 1) (sz + 2)) 20 (sC cI (oA (sz + 1) (sz + 2)) σ00) H := fun k hk0 => (w_0 k hk0).kept (hk _ (w_0 k hk0).lt)
  replace w_1 : zW D (oA (sz + 21) (sz + 22)) 20 (sC cI (oA (sz + 21) (sz + 22)) σ00) H := fun k hk0 => (w_1 k hk0).kept (hk _ (w_1 k hk0).lt)
  replace w_2 : zW D (oA (sz + 41) (sz + 42)) 20 (sC cI (oA (sz + 41) (sz + 42)) σ00) H := fun k hk0 => (w_2 k hk0).kept (hk _ (w_2 k hk0).lt)
  replace w_3 : zW D (oA (sz + 61) (sz + 62)) 20 (sC cI (oA (sz + 61) (sz + 62)) σ00) H := fun k hk0 => (w_3 k hk0).kept (hk _ (w_3 k hk0).lt)
  have k_81 := hN
  replace hz : H.size = sz + 82 := hz1
  clear hz1 hk
  refine lv_dup (pc := 31) hx hb dX2_init_31 rfl ?_
  refine zr_iN (pc := 32) (As := []) (rest := [.ref (sz + 81), .int (zI 4), .ref sz]) (sz := sz + 82) S (ct_X4_init l D cI cT (sz + 81) (sz + 82) (by omega)) ⟨va_cnB 0 hts gX2_init_X4_init_n17 rfl rfl rfl (zK_nest hK 4 rfl) (hts _ (List.mem_of_getElem? (i := 7) rfl)) (by decide +kernel) ⟨(Nat.le_of_ble_eq_true rfl), (Nat.le_of_ble_eq_true rfl)⟩, rfl, hts _ (List.mem_of_getElem? (i := 8) rfl)⟩ zs0 hK k_81 hz hS (fun q z => z.elim (fun e => hAs _ (by omega)) (fun e => hAs _ (by omega))) rfl hl.1 rfl (Nat.le_of_ble_eq_true rfl) dX2_init_32 ⟨(Nat.le_of_ble_eq_true rfl), (Nat.le_of_ble_eq_true rfl)⟩ (fun H locs hG hk hS => ?_)
  replace k_h := k_h.kept (hk _ (k_h).lt (by omega))
  replace k_0 := k_0.kept (hk _ (k_0).lt (by omega))
  replace w_0 : zW D (oA (sz + 1) (sz + 2)) 20 (sC cI (oA (sz + 1) (sz + 2)) σ00) H := fun k hk0 => (w_0 k hk0).kept (hk _ (w_0 k hk0).lt (by have := oA_r (h := (sz + 1)) (sz := (sz + 2)) (by omega) hk0; omega))
  replace w_1 : zW D (oA (sz + 21) (sz + 22)) 20 (sC cI (oA (sz + 21) (sz + 22)) σ00) H := fun k hk0 => (w_1 k hk0).kept (hk _ (w_1 k hk0).lt (by have := oA_r (h := (sz + 21)) (sz := (sz + 22)) (by omega) hk0; omega))
  replace w_2 : zW D (oA (sz + 41) (sz + 42)) 20 (sC cI (oA (sz + 41) (sz + 42)) σ00) H := fun k hk0 => (w_2 k hk0).kept (hk _ (w_2 k hk0).lt (by have := oA_r (h := (sz + 41)) (sz := (sz + 42)) (by omega) hk0; omega))
  replace w_3 : zW D (oA (sz + 61) (sz + 62)) 20 (sC cI (oA (sz + 61) (sz + 62)) σ00) H := fun k hk0 => (w_3 k hk0).kept (hk _ (w_3 k hk0).lt (by have := oA_r (h := (sz + 61)) (sz := (sz + 62)) (by omega) hk0; omega))
  clear hz hk k_81
  obtain ⟨hz, w_4⟩ := hG
  replace hz : H.size = sz + 101 := hz
  refine zr_aast (pc := 35) (n := 5) (j := 4) hx hb hK k_0 (w_4 0 (by decide)) (by decide) (by decide) hS (hAs _ (by omega)) dX2_init_35 (fun H locs hN hz1 hk hS => ?_)
  replace k_h := k_h.kept (hk _ (k_h).lt (by omega))
  replace w_0 : zW D (oA (sz + 1) (sz + 2)) 20 (sC cI (oA (sz + 1) (sz + 2)) σ00) H := fun k hk0 => (w_0 k hk0).kept (hk _ (w_0 k hk0).lt (by have := oA_r (h := (sz + 1)) (sz := (sz + 2)) (by omega) hk0; omega))
  replace w_1 : zW D (oA (sz + 21) (sz + 22)) 20 (sC cI (oA (sz + 21) (sz + 22)) σ00) H := fun k hk0 => (w_1 k hk0).kept (hk _ (w_1 k hk0).lt (by have := oA_r (h := (sz + 21)) (sz := (sz + 22)) (by omega) hk0; omega))
  replace w_2 : zW D (oA (sz + 41) (sz + 42)) 20 (sC cI (oA (sz + 41) (sz + 42)) σ00) H := fun k hk0 => (w_2 k hk0).kept (hk _ (w_2 k hk0).lt (by have := oA_r (h := (sz + 41)) (sz := (sz + 42)) (by omega) hk0; omega))
  replace w_3 : zW D (oA (sz + 61) (sz + 62)) 20 (sC cI (oA (sz + 61) (sz + 62)) σ00) H := fun k hk0 => (w_3 k hk0).kept (hk _ (w_3 k hk0).lt (by have := oA_r (h := (sz + 61)) (sz := (sz + 62)) (by omega) hk0; omega))
  replace w_4 : zW D (oA (sz + 81) (sz + 82)) 20 (sC cI (oA (sz + 81) (sz + 82)) σ00) H := fun k hk0 => (w_4 k hk0).kept (hk _ (w_4 k hk0).lt (by have := oA_r (h := (sz + 81)) (sz := (sz + 82)) (by omega) hk0; omega))
  replace k_0 := hN
  replace hz : H.size = sz + 101 := hz1.trans hz
  clear hz1 hk
  refine zr_iinc (pc := 36) (d := 5) (lv' := [(1, .int (zI 5)), (0, .ref h)]) hx hb dX2_init_36 hl (k := 0) rfl rfl (by decide) rfl (fun ls hl => ?_)
  refine lv_goto (pc := 39) (tgt := 14) hx hb dX2_init_39 (by decide) ?_
  refine lv_iload_n (pc := 14) hx hb dX2_init_14 rfl (lv_at hl 0 rfl) ?_
  refine lv_aload_n (pc := 15) hx hb dX2_init_15 rfl (lv_at hl 1 rfl) ?_
  refine zr_get (pc := 16) S hK k_h rfl i_X2 2 (by decide) (List.mem_of_getElem? (i := 5) rfl) rfl dX2_init_16 ?_
  refine zr_aalen (pc := 19) hx hb hK k_0 dX2_init_19 ?_
  refine zr_icmp_ge (pc := 20) (tgt := 42) hx hb dX2_init_20 (by decide) (by decide) (by decide) (fun _ => ?_) (fun z => absurd z (by decide))
  refine W.widen (k := 101) (n := 2960) (Nat.le_of_ble_eq_true rfl) (Nat.le_of_ble_eq_true rfl) ?_
  have hk0 := zq_ext (g := fun j => some (sz + 1 + 20 * j)) k_0 (fun j hj => by rcases (show j = 0 ∨ j = 1 ∨ j = 2 ∨ j = 3 ∨ j = 4 by omega) with rfl | rfl | rfl | rfl | rfl <;> rfl)
  have hws : ∀ j : Nat, j < 5 → zW D (oA (sz + 1 + 20 * j) (sz + 2 + 20 * j)) 20 (sC cI (oA (sz + 1 + 20 * j) (sz + 2 + 20 * j)) σ00) H := fun j hj => by
    rcases (show j = 0 ∨ j = 1 ∨ j = 2 ∨ j = 3 ∨ j = 4 by omega) with rfl | rfl | rfl | rfl | rfl
    · exact w_0
    · exact w_1
    · exact w_2
    · exact w_3
    · exact w_4
  exact W.vret hx hb hr (fun tz ht hW => ⟨⟨(), rfl, trivial, by dsimp only; rw [ht]; exact ⟨hz, k_h, hk0, hws⟩⟩, hS.F ht⟩) hS.2.2 dX2_init_42
