/-! the constructors -/
theorem zs_AO {G : Heap → Prop} {C : String} : zStab (fun U H => G H ∧ va_AO C U) := fun _ _ _ hv h => ⟨h.1, h.2.moved hv⟩
def oM (h sz : Nat) : Nat → Nat := fun k => match k with
  | 0 => h
  | k + 1 => sz + k
theorem oA_r {h sz k : Nat} (e : h + 1 = sz) (hk : k < 20) : h ≤ oA h sz k ∧ oA h sz k < h + 20 := by
  match k, hk with
  | 0, _ => exact ⟨by show h ≤ h; omega, by show h < h + 20; omega⟩
  | 1, _ => exact ⟨by show h ≤ sz + 0; omega, by show sz + 0 < h + 20; omega⟩
  | 2, _ => exact ⟨by show h ≤ sz + 9; omega, by show sz + 9 < h + 20; omega⟩
  | 3, _ => exact ⟨by show h ≤ sz + 12; omega, by show sz + 12 < h + 20; omega⟩
  | 4, _ => exact ⟨by show h ≤ sz + 18; omega, by show sz + 18 < h + 20; omega⟩
  | 5, _ => exact ⟨by show h ≤ sz + 1; omega, by show sz + 1 < h + 20; omega⟩
  | 6, _ => exact ⟨by show h ≤ sz + 2; omega, by show sz + 2 < h + 20; omega⟩
  | 7, _ => exact ⟨by show h ≤ sz + 3; omega, by show sz + 3 < h + 20; omega⟩
  | 8, _ => exact ⟨by show h ≤ sz + 4; omega, by show sz + 4 < h + 20; omega⟩
  | 9, _ => exact ⟨by show h ≤ sz + 5; omega, by show sz + 5 < h + 20; omega⟩
  | 10, _ => exact ⟨by show h ≤ sz + 6; omega, by show sz + 6 < h + 20; omega⟩
  | 11, _ => exact ⟨by show h ≤ sz + 7; omega, by show sz + 7 < h + 20; omega⟩
  | 12, _ => exact ⟨by show h ≤ sz + 8; omega, by show sz + 8 < h + 20; omega⟩
  | 13, _ => exact ⟨by show h ≤ sz + 10; omega, by show sz + 10 < h + 20; omega⟩
  | 14, _ => exact ⟨by show h ≤ sz + 11; omega, by show sz + 11 < h + 20; omega⟩
  | 15, _ => exact ⟨by show h ≤ sz + 13; omega, by show sz + 13 < h + 20; omega⟩
  | 16, _ => exact ⟨by show h ≤ sz + 14; omega, by show sz + 14 < h + 20; omega⟩
  | 17, _ => exact ⟨by show h ≤ sz + 15; omega, by show sz + 15 < h + 20; omega⟩
  | 18, _ => exact ⟨by show h ≤ sz + 16; omega, by show sz + 16 < h + 20; omega⟩
  | 19, _ => exact ⟨by show h ≤ sz + 17; omega, by show sz + 17 < h + 20; omega⟩
  | k + 20, hk => exact absurd hk (by omega)
set_option maxHeartbeats 4000000 in
set_option maxRecDepth 100000 in
theorem ct_X6_init (l : Launch) (D : va_G) (cI cT : ClassId) (h sz : Nat) (hh : h < sz) : zMn l yX6_init wsX6_init ({ frames := 1, cells := 8, slots := 320, locals := 20 }) D cI cT [.ref h] sz (fun _ H => va_at D vwCl (h, .inr (6, [.int (zI 0), .null, .null, .null, .null, .null, .null, .null, .null])) H) (fun H => H.size = sz + 8 ∧ va_at D vwCl (h, .inr (6, [.int (zI 0), .ref sz, .ref (sz + 1), .ref (sz + 2), .ref (sz + 3), .ref (sz + 4), .ref (sz + 5), .ref (sz + 6), .ref (sz + 7)])) H ∧ va_at D vwCl (sz, .inl (cI, 48, .inl (zf (fun _ => 0)))) H ∧ va_at D vwCl (sz + 1, .inl (cI, 16, .inl (zf (fun _ => 0)))) H ∧ va_at D vwCl (sz + 2, .inl (cI, 16, .inl (zf (fun _ => 0)))) H ∧ va_at D vwCl (sz + 3, .inl (cI, 16, .inl (zf (fun _ => 0)))) H ∧ va_at D vwCl (sz + 4, .inl (cI, 16, .inl (zf (fun _ => 0)))) H ∧ va_at D vwCl (sz + 5, .inl (cI, 16, .inl (zf (fun _ => 0)))) H ∧ va_at D vwCl (sz + 6, .inl (cI, 96, .inl (zf (fun _ => 0)))) H ∧ va_at D vwCl (sz + 7, .inl (cI, 96, .inl (zf (fun _ => 0)))) H) (fun q => q = h ∨ sz ≤ q) 8 320 := by
  refine Met.ofW (cc := cX6_init) (maxL := 1) (ret := none) (by decide) rfl ?_
  intro p_ e_ s m_ args below meth c_ s₁ B hml hv
  obtain ⟨rfl, hz, hK, k_h⟩ := hv
  have hx := B.exec
  have hb := B.bytes
  have hr := B.returns
  have hts := atoms_spec (ws := wsX6_init) B.pre
  have hown : s.vm.findClass RX6 = some m_.cls := findClass_of_methodNamed B.named
  have hlocks := B.notSynchronized
  have hin : meth.name = "<init>" := (name_of_methodNamed B.named B.method).1
  have S : CallFix p_ m_ c_ cX6_init 1 s _ wsX6_init RX6 := ⟨hx, hb, hml, hown, hts⟩
  have i_X6 : ∀ w ∈ u_ws RX6 TX6 9, w ∈ wsX6_init := fun _ h => List.mem_cons_of_mem _ (List.mem_append_right _ h)
  generalize hAe : (fun (q : Nat) => q = h ∨ sz ≤ q) = A
  have hAs : ∀ q : Nat, sz ≤ q → A q := fun q hq => by rw [← hAe]; exact Or.inr hq
  have hAn : ∀ q : Nat, s.heap.size ≤ q → A q := fun q hq => hAs q (by omega)
  have hAh : A h := by rw [← hAe]; exact Or.inl rfl
  obtain ⟨H, hHe⟩ : ∃ H : Heap, H = s.heap := ⟨_, rfl⟩
  rw [← hHe] at k_h hz ⊢
  have hS : va_S A s.heap H [] := by rw [hHe]; exact va_S.rf
  have hl := lv_entry ([.ref h]) (n := 1) (Nat.le_of_ble_eq_true rfl)
  rw [lg_entry_eq]
  generalize (lg_sl ([.ref h]) ++ List.replicate (1 - (lg_sl ([.ref h])).length) Slot.unset).toArray = ls at hl ⊢
  have hl : lv_has ls 1 [(0, .ref h)] := hl
  refine lv_aload_n (pc := 0) hx hb dX6_init_0 rfl (lv_at hl 0 rfl) ?_
  refine zr_obj (pc := 1) hx hb hown (hml.trans hl.1.symm) (hts _ (List.mem_of_getElem? (i := 1) rfl)) (hts _ (List.mem_of_getElem? (i := 2) rfl)) (hts _ (List.mem_of_getElem? (i := 3) rfl)) (Nat.le_of_ble_eq_true rfl) (Nat.le_of_ble_eq_true rfl) dX6_init_1 ?_
  refine lv_aload_n (pc := 4) hx hb dX6_init_4 rfl (lv_at hl 0 rfl) ?_
  refine lv_bipush (pc := 5) (v := zI ((48 : Nat) : Int)) hx hb dX6_init_5 zc_bipush_48 ?_
  refine zr_newa (pc := 7) (n := 48) hx hb (hts _ (List.mem_of_getElem? (i := 4) rfl)) hK hS (by decide) dX6_init_7 (Nat.le_of_ble_eq_true rfl) (Nat.le_of_ble_eq_true rfl) hz (fun H hN hz1 hk hS => ?_)
  replace k_h := k_h.kept (hk _ (k_h).lt)
  have k_0 := hN
  replace hz : H.size = sz + 1 := hz1
  clear hz1 hk
  refine zr_putF (pc := 9) S hin hK k_h rfl i_X6 tyX6 tyX6_ok nmX6 1 (by decide) (List.mem_of_getElem? (i := 5) rfl) rfl rfl rfl rfl (Nat.le_of_ble_eq_true rfl) hS hAh dX6_init_9 (fun H locs hN hz1 hk hS => ?_)
  replace k_0 := k_0.kept (hk _ (k_0).lt (by omega))
  replace k_h := hN
  replace hz : H.size = sz + 1 := hz1.trans hz
  clear hz1 hk
  refine lv_aload_n (pc := 12) hx hb dX6_init_12 rfl (lv_at hl 0 rfl) ?_
  refine lv_bipush (pc := 13) (v := zI ((16 : Nat) : Int)) hx hb dX6_init_13 zc_bipush_16 ?_
  refine zr_newa (pc := 15) (n := 16) hx hb (hts _ (List.mem_of_getElem? (i := 4) rfl)) hK hS (by decide) dX6_init_15 (Nat.le_of_ble_eq_true rfl) (Nat.le_of_ble_eq_true rfl) hz (fun H hN hz1 hk hS => ?_)
  replace k_h := k_h.kept (hk _ (k_h).lt)
  replace k_0 := k_0.kept (hk _ (k_0).lt)
  have k_1 := hN
  replace hz : H.size = sz + 2 := hz1
  clear hz1 hk
  refine zr_putF (pc := 17) S hin hK k_h rfl i_X6 tyX6 tyX6_ok nmX6 2 (by decide) (List.mem_of_getElem? (i := 6) rfl) rfl rfl rfl rfl (Nat.le_of_ble_eq_true rfl) hS hAh dX6_init_17 (fun H locs hN hz1 hk hS => ?_)
  replace k_0 := k_0.kept (hk _ (k_0).lt (by omega))
  replace k_1 := k_1.kept (hk _ (k_1).lt (by omega))
  replace k_h := hN
  replace hz : H.size = sz + 2 := hz1.trans hz
  clear hz1 hk
  refine lv_aload_n (pc := 20) hx hb dX6_init_20 rfl (lv_at hl 0 rfl) ?_
  refine lv_bipush (pc := 21) (v := zI ((16 : Nat) : Int)) hx hb dX6_init_21 zc_bipush_16 ?_
  refine zr_newa (pc := 23) (n := 16) hx hb (hts _ (List.mem_of_getElem? (i := 4) rfl)) hK hS (by decide) dX6_init_23 (Nat.le_of_ble_eq_true rfl) (Nat.le_of_ble_eq_true rfl) hz (fun H hN hz1 hk hS => ?_)
  replace k_h := k_h.kept (hk _ (k_h).lt)
  replace k_0 := k_0.kept (hk _ (k_0).lt)
  replace k_1 := k_1.kept (hk _ (k_1).lt)
  have k_2 := hN
  replace hz : H.size = sz + 3 := hz1
  clear hz1 hk
  refine zr_putF (pc := 25) S hin hK k_h rfl i_X6 tyX6 tyX6_ok nmX6 3 (by decide) (List.mem_of_getElem? (i := 7) rfl) rfl rfl rfl rfl (Nat.le_of_ble_eq_true rfl) hS hAh dX6_init_25 (fun H locs hN hz1 hk hS => ?_)
  replace k_0 := k_0.kept (hk _ (k_0).lt (by omega))
  replace k_1 := k_1.kept (hk _ (k_1).lt (by omega))
  replace k_2 := k_2.kept (hk _ (k_2).lt (by omega))
  replace k_h := hN
  replace hz : H.size = sz + 3 := hz1.trans hz
  clear hz1 hk
  refine lv_aload_n (pc := 28) hx hb dX6_init_28 rfl (lv_at hl 0 rfl) ?_
  refine lv_bipush (pc := 29) (v := zI ((16 : Nat) : Int)) hx hb dX6_init_29 zc_bipush_16 ?_
  refine zr_newa (pc := 31) (n := 16) hx hb (hts _ (List.mem_of_getElem? (i := 4) rfl)) hK hS (by decide) dX6_init_31 (Nat.le_of_ble_eq_true rfl) (Nat.le_of_ble_eq_true rfl) hz (fun H hN hz1 hk hS => ?_)
  replace k_h := k_h.kept (hk _ (k_h).lt)
  replace k_0 := k_0.kept (hk _ (k_0).lt)
  replace k_1 := k_1.kept (hk _ (k_1).lt)
  replace k_2 := k_2.kept (hk _ (k_2).lt)
  have k_3 := hN
  replace hz : H.size = sz + 4 := hz1
  clear hz1 hk
  refine zr_putF (pc := 33) S hin hK k_h rfl i_X6 tyX6 tyX6_ok nmX6 4 (by decide) (List.mem_of_getElem? (i := 8) rfl) rfl rfl rfl rfl (Nat.le_of_ble_eq_true rfl) hS hAh dX6_init_33 (fun H locs hN hz1 hk hS => ?_)
  replace k_0 := k_0.kept (hk _ (k_0).lt (by omega))
  replace k_1 := k_1.kept (hk _ (k_1).lt (by omega))
  replace k_2 := k_2.kept (hk _ (k_2).lt (by omega))
  replace k_3 := k_3.kept (hk _ (k_3).lt (by omega))
  replace k_h := hN
  replace hz : H.size = sz + 4 := hz1.trans hz
  clear hz1 hk
  refine lv_aload_n (pc := 36) hx hb dX6_init_36 rfl (lv_at hl 0 rfl) ?_
  refine lv_bipush (pc := 37) (v := zI ((16 : Nat) : Int)) hx hb dX6_init_37 zc_bipush_16 ?_
  refine zr_newa (pc := 39) (n := 16) hx hb (hts _ (List.mem_of_getElem? (i := 4) rfl)) hK hS (by decide) dX6_init_39 (Nat.le_of_ble_eq_true rfl) (Nat.le_of_ble_eq_true rfl) hz (fun H hN hz1 hk hS => ?_)
  replace k_h := k_h.kept (hk _ (k_h).lt)
  replace k_0 := k_0.kept (hk _ (k_0).lt)
  replace k_1 := k_1.kept (hk _ (k_1).lt)
  replace k_2 := k_2.kept (hk _ (k_2).lt)
  replace k_3 := k_3.kept (hk _ (k_3).lt)
  have k_4 := hN
  replace hz : H.size = sz + 5 := hz1
  clear hz1 hk
  refine zr_putF (pc := 41) S hin hK k_h rfl i_X6 tyX6 tyX6_ok nmX6 5 (by decide) (List.mem_of_getElem? (i := 9) rfl) rfl rfl rfl rfl (Nat.le_of_ble_eq_true rfl) hS hAh dX6_init_41 (fun H locs hN hz1 hk hS => ?_)
  replace k_0 := k_0.kept (hk _ (k_0).lt (by omega))
  replace k_1 := k_1.kept (hk _ (k_1).lt (by omega))
  replace k_2 := k_2.kept (hk _ (k_2).lt (by omega))
  replace k_3 := k_3.kept (hk _ (k_3).lt (by omega))
  replace k_4 := k_4.kept (hk _ (k_4).lt (by omega))
  replace k_h := hN
  replace hz : H.size = sz + 5 := hz1.trans hz
  clear hz1 hk
  refine lv_aload_n (pc := 44) hx hb dX6_init_44 rfl (lv_at hl 0 rfl) ?_
  refine lv_bipush (pc := 45) (v := zI ((16 : Nat) : Int)) hx hb dX6_init_45 zc_bipush_16 ?_
  refine zr_newa (pc := 47) (n := 16) hx hb (hts _ (List.mem_of_getElem? (i := 4) rfl)) hK hS (by decide) dX6_init_47 (Nat.le_of_ble_eq_true rfl) (Nat.le_of_ble_eq_true rfl) hz (fun H hN hz1 hk hS => ?_)
  replace k_h := k_h.kept (hk _ (k_h).lt)
  replace k_0 := k_0.kept (hk _ (k_0).lt)
  replace k_1 := k_1.kept (hk _ (k_1).lt)
  replace k_2 := k_2.kept (hk _ (k_2).lt)
  replace k_3 := k_3.kept (hk _ (k_3).lt)
  replace k_4 := k_4.kept (hk _ (k_4).lt)
  have k_5 := hN
  replace hz : H.size = sz + 6 := hz1
  clear hz1 hk
  refine zr_putF (pc := 49) S hin hK k_h rfl i_X6 tyX6 tyX6_ok nmX6 6 (by decide) (List.mem_of_getElem? (i := 10) rfl) rfl rfl rfl rfl (Nat.le_of_ble_eq_true rfl) hS hAh dX6_init_49 (fun H locs hN hz1 hk hS => ?_)
  replace k_0 := k_0.kept (hk _ (k_0).lt (by omega))
  replace k_1 := k_1.kept (hk _ (k_1).lt (by omega))
  replace k_2 := k_2.kept (hk _ (k_2).lt (by omega))
  replace k_3 := k_3.kept (hk _ (k_3).lt (by omega))
  replace k_4 := k_4.kept (hk _ (k_4).lt (by omega))
  replace k_5 := k_5.kept (hk _ (k_5).lt (by omega))
  replace k_h := hN
  replace hz : H.size = sz + 6 := hz1.trans hz
  clear hz1 hk
  refine lv_aload_n (pc := 52) hx hb dX6_init_52 rfl (lv_at hl 0 rfl) ?_
  refine lv_bipush (pc := 53) (v := zI ((96 : Nat) : Int)) hx hb dX6_init_53 zc_bipush_96 ?_
  refine zr_newa (pc := 55) (n := 96) hx hb (hts _ (List.mem_of_getElem? (i := 4) rfl)) hK hS (by decide) dX6_init_55 (Nat.le_of_ble_eq_true rfl) (Nat.le_of_ble_eq_true rfl) hz (fun H hN hz1 hk hS => ?_)
  replace k_h := k_h.kept (hk _ (k_h).lt)
  replace k_0 := k_0.kept (hk _ (k_0).lt)
  replace k_1 := k_1.kept (hk _ (k_1).lt)
  replace k_2 := k_2.kept (hk _ (k_2).lt)
  replace k_3 := k_3.kept (hk _ (k_3).lt)
  replace k_4 := k_4.kept (hk _ (k_4).lt)
  replace k_5 := k_5.kept (hk _ (k_5).lt)
  have k_6 := hN
  replace hz : H.size = sz + 7 := hz1
  clear hz1 hk
  refine zr_putF (pc := 57) S hin hK k_h rfl i_X6 tyX6 tyX6_ok nmX6 7 (by decide) (List.mem_of_getElem? (i := 11) rfl) rfl rfl rfl rfl (Nat.le_of_ble_eq_true rfl) hS hAh dX6_init_57 (fun H locs hN hz1 hk hS => ?_)
  replace k_0 := k_0.kept (hk _ (k_0).lt (by omega))
  replace k_1 := k_1.kept (hk _ (k_1).lt (by omega))
  replace k_2 := k_2.kept (hk _ (k_2).lt (by omega))
  replace k_3 := k_3.kept (hk _ (k_3).lt (by omega))
  replace k_4 := k_4.kept (hk _ (k_4).lt (by omega))
  replace k_5 := k_5.kept (hk _ (k_5).lt (by omega))
  replace k_6 := k_6.kept (hk _ (k_6).lt (by omega))
  replace k_h := hN
  replace hz : H.size = sz + 7 := hz1.trans hz
  clear hz1 hk
  refine lv_aload_n (pc := 60) hx hb dX6_init_60 rfl (lv_at hl 0 rfl) ?_
  refine lv_bipush (pc := 61) (v := zI ((96 : Nat) : Int)) hx hb dX6_init_61 zc_bipush_96 ?_
  refine zr_newa (pc := 63) (n := 96) hx hb (hts _ (List.mem_of_getElem? (i := 4) rfl)) hK hS (by decide) dX6_init_63 (Nat.le_of_ble_eq_true rfl) (Nat.le_of_ble_eq_true rfl) hz (fun H hN hz1 hk hS => ?_)
  replace k_h := k_h.kept (hk _ (k_h).lt)
  replace k_0 := k_0.kept (hk _ (k_0).lt)
  replace k_1 := k_1.kept (hk _ (k_1).lt)
  replace k_2 := k_2.kept (hk _ (k_2).lt)
  replace k_3 := k_3.kept (hk _ (k_3).lt)
  replace k_4 := k_4.kept (hk _ (k_4).lt)
  replace k_5 := k_5.kept (hk _ (k_5).lt)
  replace k_6 := k_6.kept (hk _ (k_6).lt)
  have k_7 := hN
  replace hz : H.size = sz + 8 := hz1
  clear hz1 hk
  refine zr_putF (pc := 65) S hin hK k_h rfl i_X6 tyX6 tyX6_ok nmX6 8 (by decide) (List.mem_of_getElem? (i := 12) rfl) rfl rfl rfl rfl (Nat.le_of_ble_eq_true rfl) hS hAh dX6_init_65 (fun H locs hN hz1 hk hS => ?_)
  replace k_0 := k_0.kept (hk _ (k_0).lt (by omega))
  replace k_1 := k_1.kept (hk _ (k_1).lt (by omega))
  replace k_2 := k_2.kept (hk _ (k_2).lt (by omega))
  replace k_3 := k_3.kept (hk _ (k_3).lt (by omega))
  replace k_4 := k_4.kept (hk _ (k_4).lt (by omega))
  replace k_5 := k_5.kept (hk _ (k_5).lt (by omega))
  replace k_6 := k_6.kept (hk _ (k_6).lt (by omega))
  replace k_7 := k_7.kept (hk _ (k_7).lt (by omega))
  replace k_h := hN
  replace hz : H.size = sz + 8 := hz1.trans hz
  clear hz1 hk
  refine W.widen (k := 8) (n := 320) (Nat.le_of_ble_eq_true rfl) (Nat.le_of_ble_eq_true rfl) ?_
  exact W.vret hx hb hr (fun tz ht hW => ⟨⟨(), rfl, trivial, by dsimp only; rw [ht]; exact ⟨hz, k_h, k_0, k_1, k_2, k_3, k_4, k_5, k_6, k_7⟩⟩, hS.F ht⟩) hS.2.2 dX6_init_68

set_option maxHeartbeats 4000000 in
set_option maxRecDepth 100000 in
theorem ct_X0_init (l : Launch) (D : va_G) (cI cT : ClassId) (h sz : Nat) (hh : h < sz) : zMn l yX0_init wsX0_init ({ frames := 1, cells := 2, slots := 120, locals := 20 }) D cI cT [.ref h] sz (fun _ H => va_at D vwCl (h, .inr (0, [.int (zI 0), .null, .null])) H) (fun H => H.size = sz + 2 ∧ va_at D vwCl (h, .inr (0, [.int (zI 0), .ref sz, .ref (sz + 1)])) H ∧ va_at D vwCl (sz, .inl (cI, 24, .inl (zf (fun _ => 0)))) H ∧ va_at D vwCl (sz + 1, .inl (cI, 96, .inl (zf (fun _ => 0)))) H) (fun q => q = h ∨ sz ≤ q) 2 120 := by
  refine Met.ofW (cc := cX0_init) (maxL := 1) (ret := none) (by decide) rfl ?_
  intro p_ e_ s m_ args below meth c_ s₁ B hml hv
  obtain ⟨rfl, hz, hK, k_h⟩ := hv
  have hx := B.exec
  have hb := B.bytes
  have hr := B.returns
  have hts := atoms_spec (ws := wsX0_init) B.pre
  have hown : s.vm.findClass RX0 = some m_.cls := findClass_of_methodNamed B.named
  have hlocks := B.notSynchronized
  have hin : meth.name = "<init>" := (name_of_methodNamed B.named B.method).1
  have S : CallFix p_ m_ c_ cX0_init 1 s _ wsX0_init RX0 := ⟨hx, hb, hml, hown, hts⟩
  have i_X0 : ∀ w ∈ u_ws RX0 TX0 3, w ∈ wsX0_init := fun _ h => List.mem_cons_of_mem _ (List.mem_append_right _ h)
  generalize hAe : (fun (q : Nat) => q = h ∨ sz ≤ q) = A
  have hAs : ∀ q : Nat, sz ≤ q → A q := fun q hq => by rw [← hAe]; exact Or.inr hq
  have hAn : ∀ q : Nat, s.heap.size ≤ q → A q := fun q hq => hAs q (by omega)
  have hAh : A h := by rw [← hAe]; exact Or.inl rfl
  obtain ⟨H, hHe⟩ : ∃ H : Heap, H = s.heap := ⟨_, rfl⟩
  rw [← hHe] at k_h hz ⊢
  have hS : va_S A s.heap H [] := by rw [hHe]; exact va_S.rf
  have hl := lv_entry ([.ref h]) (n := 1) (Nat.le_of_ble_eq_true rfl)
  rw [lg_entry_eq]
  generalize (lg_sl ([.ref h]) ++ List.replicate (1 - (lg_sl ([.ref h])).length) Slot.unset).toArray = ls at hl ⊢
  have hl : lv_has ls 1 [(0, .ref h)] := hl
  refine lv_aload_n (pc := 0) hx hb dX0_init_0 rfl (lv_at hl 0 rfl) ?_
  refine zr_obj (pc := 1) hx hb hown (hml.trans hl.1.symm) (hts _ (List.mem_of_getElem? (i := 1) rfl)) (hts _ (List.mem_of_getElem? (i := 2) rfl)) (hts _ (List.mem_of_getElem? (i := 3) rfl)) (Nat.le_of_ble_eq_true rfl) (Nat.le_of_ble_eq_true rfl) dX0_init_1 ?_
  refine lv_aload_n (pc := 4) hx hb dX0_init_4 rfl (lv_at hl 0 rfl) ?_
  refine lv_bipush (pc := 5) (v := zI ((24 : Nat) : Int)) hx hb dX0_init_5 zc_bipush_24 ?_
  refine zr_newa (pc := 7) (n := 24) hx hb (hts _ (List.mem_of_getElem? (i := 4) rfl)) hK hS (by decide) dX0_init_7 (Nat.le_of_ble_eq_true rfl) (Nat.le_of_ble_eq_true rfl) hz (fun H hN hz1 hk hS => ?_)
  replace k_h := k_h.kept (hk _ (k_h).lt)
  have k_0 := hN
  replace hz : H.size = sz + 1 := hz1
  clear hz1 hk
  refine zr_putF (pc := 9) S hin hK k_h rfl i_X0 tyX0 tyX0_ok nmX0 1 (by decide) (List.mem_of_getElem? (i := 5) rfl) rfl rfl rfl rfl (Nat.le_of_ble_eq_true rfl) hS hAh dX0_init_9 (fun H locs hN hz1 hk hS => ?_)
  replace k_0 := k_0.kept (hk _ (k_0).lt (by omega))
  replace k_h := hN
  replace hz : H.size = sz + 1 := hz1.trans hz
  clear hz1 hk
  refine lv_aload_n (pc := 12) hx hb dX0_init_12 rfl (lv_at hl 0 rfl) ?_
  refine lv_bipush (pc := 13) (v := zI ((96 : Nat) : Int)) hx hb dX0_init_13 zc_bipush_96 ?_
  refine zr_newa (pc := 15) (n := 96) hx hb (hts _ (List.mem_of_getElem? (i := 4) rfl)) hK hS (by decide) dX0_init_15 (Nat.le_of_ble_eq_true rfl) (Nat.le_of_ble_eq_true rfl) hz (fun H hN hz1 hk hS => ?_)
  replace k_h := k_h.kept (hk _ (k_h).lt)
  replace k_0 := k_0.kept (hk _ (k_0).lt)
  have k_1 := hN
  replace hz : H.size = sz + 2 := hz1
  clear hz1 hk
  refine zr_putF (pc := 17) S hin hK k_h rfl i_X0 tyX0 tyX0_ok nmX0 2 (by decide) (List.mem_of_getElem? (i := 6) rfl) rfl rfl rfl rfl (Nat.le_of_ble_eq_true rfl) hS hAh dX0_init_17 (fun H locs hN hz1 hk hS => ?_)
  replace k_0 := k_0.kept (hk _ (k_0).lt (by omega))
  replace k_1 := k_1.kept (hk _ (k_1).lt (by omega))
  replace k_h := hN
  replace hz : H.size = sz + 2 := hz1.trans hz
  clear hz1 hk
  refine W.widen (k := 2) (n := 120) (Nat.le_of_ble_eq_true rfl) (Nat.le_of_ble_eq_true rfl) ?_
  exact W.vret hx hb hr (fun tz ht hW => ⟨⟨(), rfl, trivial, by dsimp only; rw [ht]; exact ⟨hz, k_h, k_0, k_1⟩⟩, hS.F ht⟩) hS.2.2 dX0_init_20

set_option maxHeartbeats 4000000 in
set_option maxRecDepth 100000 in
theorem ct_X1_init (l : Launch) (D : va_G) (cI cT : ClassId) (h sz : Nat) (hh : h < sz) : zMn l yX1_init wsX1_init ({ frames := 1, cells := 5, slots := 120, locals := 20 }) D cI cT [.ref h] sz (fun _ H => va_at D vwCl (h, .inr (1, [.int (zI 0), .null, .null, .null, .null, .null])) H) (fun H => H.size = sz + 5 ∧ va_at D vwCl (h, .inr (1, [.int (zI 0), .ref sz, .ref (sz + 1), .ref (sz + 2), .ref (sz + 3), .ref (sz + 4)])) H ∧ va_at D vwCl (sz, .inl (cI, 24, .inl (zf (fun _ => 0)))) H ∧ va_at D vwCl (sz + 1, .inl (cI, 24, .inl (zf (fun _ => 0)))) H ∧ va_at D vwCl (sz + 2, .inl (cI, 24, .inl (zf (fun _ => 0)))) H ∧ va_at D vwCl (sz + 3, .inl (cI, 24, .inl (zf (fun _ => 0)))) H ∧ va_at D vwCl (sz + 4, .inl (cI, 24, .inl (zf (fun _ => 0)))) H) (fun q => q = h ∨ sz ≤ q) 5 120 := by
  refine Met.ofW (cc := cX1_init) (maxL := 1) (ret := none) (by decide) rfl ?_
  intro p_ e_ s m_ args below meth c_ s₁ B hml hv
  obtain ⟨rfl, hz, hK, k_h⟩ := hv
  have hx := B.exec
  have hb := B.bytes
  have hr := B.returns
  have hts := atoms_spec (ws := wsX1_init) B.pre
  have hown : s.vm.findClass RX1 = some m_.cls := findClass_of_methodNamed B.named
  have hlocks := B.notSynchronized
  have hin : meth.name = "<init>" := (name_of_methodNamed B.named B.method).1
  have S : CallFix p_ m_ c_ cX1_init 1 s _ wsX1_init RX1 := ⟨hx, hb, hml, hown, hts⟩
  have i_X1 : ∀ w ∈ u_ws RX1 TX1 6, w ∈ wsX1_init := fun _ h => List.mem_cons_of_mem _ (List.mem_append_right _ h)
  generalize hAe : (fun (q : Nat) => q = h ∨ sz ≤ q) = A
  have hAs : ∀ q : Nat, sz ≤ q → A q := fun q hq => by rw [← hAe]; exact Or.inr hq
  have hAn : ∀ q : Nat, s.heap.size ≤ q → A q := fun q hq => hAs q (by omega)
  have hAh : A h := by rw [← hAe]; exact Or.inl rfl
  obtain ⟨H, hHe⟩ : ∃ H : Heap, H = s.heap := ⟨_, rfl⟩
  rw [← hHe] at k_h hz ⊢
  have hS : va_S A s.heap H [] := by rw [hHe]; exact va_S.rf
  have hl := lv_entry ([.ref h]) (n := 1) (Nat.le_of_ble_eq_true rfl)
  rw [lg_entry_eq]
  generalize (lg_sl ([.ref h]) ++ List.replicate (1 - (lg_sl ([.ref h])).length) Slot.unset).toArray = ls at hl ⊢
  have hl : lv_has ls 1 [(0, .ref h)] := hl
  refine lv_aload_n (pc := 0) hx hb dX1_init_0 rfl (lv_at hl 0 rfl) ?_
  refine zr_obj (pc := 1) hx hb hown (hml.trans hl.1.symm) (hts _ (List.mem_of_getElem? (i := 1) rfl)) (hts _ (List.mem_of_getElem? (i := 2) rfl)) (hts _ (List.mem_of_getElem? (i := 3) rfl)) (Nat.le_of_ble_eq_true rfl) (Nat.le_of_ble_eq_true rfl) dX1_init_1 ?_
  refine lv_aload_n (pc := 4) hx hb dX1_init_4 rfl (lv_at hl 0 rfl) ?_
  refine lv_bipush (pc := 5) (v := zI ((24 : Nat) : Int)) hx hb dX1_init_5 zc_bipush_24 ?_
  refine zr_newa (pc := 7) (n := 24) hx hb (hts _ (List.mem_of_getElem? (i := 4) rfl)) hK hS (by decide) dX1_init_7 (Nat.le_of_ble_eq_true rfl) (Nat.le_of_ble_eq_true rfl) hz (fun H hN hz1 hk hS => ?_)
  replace k_h := k_h.kept (hk _ (k_h).lt)
  have k_0 := hN
  replace hz : H.size = sz + 1 := hz1
  clear hz1 hk
  refine zr_putF (pc := 9) S hin hK k_h rfl i_X1 tyX1 tyX1_ok nmX1 1 (by decide) (List.mem_of_getElem? (i := 5) rfl) rfl rfl rfl rfl (Nat.le_of_ble_eq_true rfl) hS hAh dX1_init_9 (fun H locs hN hz1 hk hS => ?_)
  replace k_0 := k_0.kept (hk _ (k_0).lt (by omega))
  replace k_h := hN
  replace hz : H.size = sz + 1 := hz1.trans hz
  clear hz1 hk
  refine lv_aload_n (pc := 12) hx hb dX1_init_12 rfl (lv_at hl 0 rfl) ?_
  refine lv_bipush (pc := 13) (v := zI ((24 : Nat) : Int)) hx hb dX1_init_13 zc_bipush_24 ?_
  refine zr_newa (pc := 15) (n := 24) hx hb (hts _ (List.mem_of_getElem? (i := 4) rfl)) hK hS (by decide) dX1_init_15 (Nat.le_of_ble_eq_true rfl) (Nat.le_of_ble_eq_true rfl) hz (fun H hN hz1 hk hS => ?_)
  replace k_h := k_h.kept (hk _ (k_h).lt)
  replace k_0 := k_0.kept (hk _ (k_0).lt)
  have k_1 := hN
  replace hz : H.size = sz + 2 := hz1
  clear hz1 hk
  refine zr_putF (pc := 17) S hin hK k_h rfl i_X1 tyX1 tyX1_ok nmX1 2 (by decide) (List.mem_of_getElem? (i := 6) rfl) rfl rfl rfl rfl (Nat.le_of_ble_eq_true rfl) hS hAh dX1_init_17 (fun H locs hN hz1 hk hS => ?_)
  replace k_0 := k_0.kept (hk _ (k_0).lt (by omega))
  replace k_1 := k_1.kept (hk _ (k_1).lt (by omega))
  replace k_h := hN
  replace hz : H.size = sz + 2 := hz1.trans hz
  clear hz1 hk
  refine lv_aload_n (pc := 20) hx hb dX1_init_20 rfl (lv_at hl 0 rfl) ?_
  refine lv_bipush (pc := 21) (v := zI ((24 : Nat) : Int)) hx hb dX1_init_21 zc_bipush_24 ?_
  refine zr_newa (pc := 23) (n := 24) hx hb (hts _ (List.mem_of_getElem? (i := 4) rfl)) hK hS (by decide) dX1_init_23 (Nat.le_of_ble_eq_true rfl) (Nat.le_of_ble_eq_true rfl) hz (fun H hN hz1 hk hS => ?_)
  replace k_h := k_h.kept (hk _ (k_h).lt)
  replace k_0 := k_0.kept (hk _ (k_0).lt)
  replace k_1 := k_1.kept (hk _ (k_1).lt)
  have k_2 := hN
  replace hz : H.size = sz + 3 := hz1
  clear hz1 hk
  refine zr_putF (pc := 25) S hin hK k_h rfl i_X1 tyX1 tyX1_ok nmX1 3 (by decide) (List.mem_of_getElem? (i := 7) rfl) rfl rfl rfl rfl (Nat.le_of_ble_eq_true rfl) hS hAh dX1_init_25 (fun H locs hN hz1 hk hS => ?_)
  replace k_0 := k_0.kept (hk _ (k_0).lt (by omega))
  replace k_1 := k_1.kept (hk _ (k_1).lt (by omega))
  replace k_2 := k_2.kept (hk _ (k_2).lt (by omega))
  replace k_h := hN
  replace hz : H.size = sz + 3 := hz1.trans hz
  clear hz1 hk
  refine lv_aload_n (pc := 28) hx hb dX1_init_28 rfl (lv_at hl 0 rfl) ?_
  refine lv_bipush (pc := 29) (v := zI ((24 : Nat) : Int)) hx hb dX1_init_29 zc_bipush_24 ?_
  refine zr_newa (pc := 31) (n := 24) hx hb (hts _ (List.mem_of_getElem? (i := 4) rfl)) hK hS (by decide) dX1_init_31 (Nat.le_of_ble_eq_true rfl) (Nat.le_of_ble_eq_true rfl) hz (fun H hN hz1 hk hS => ?_)
  replace k_h := k_h.kept (hk _ (k_h).lt)
  replace k_0 := k_0.kept (hk _ (k_0).lt)
  replace k_1 := k_1.kept (hk _ (k_1).lt)
  replace k_2 := k_2.kept (hk _ (k_2).lt)
  have k_3 := hN
  replace hz : H.size = sz + 4 := hz1
  clear hz1 hk
  refine zr_putF (pc := 33) S hin hK k_h rfl i_X1 tyX1 tyX1_ok nmX1 4 (by decide) (List.mem_of_getElem? (i := 8) rfl) rfl rfl rfl rfl (Nat.le_of_ble_eq_true rfl) hS hAh dX1_init_33 (fun H locs hN hz1 hk hS => ?_)
  replace k_0 := k_0.kept (hk _ (k_0).lt (by omega))
  replace k_1 := k_1.kept (hk _ (k_1).lt (by omega))
  replace k_2 := k_2.kept (hk _ (k_2).lt (by omega))
  replace k_3 := k_3.kept (hk _ (k_3).lt (by omega))
  replace k_h := hN
  replace hz : H.size = sz + 4 := hz1.trans hz
  clear hz1 hk
  refine lv_aload_n (pc := 36) hx hb dX1_init_36 rfl (lv_at hl 0 rfl) ?_
  refine lv_bipush (pc := 37) (v := zI ((24 : Nat) : Int)) hx hb dX1_init_37 zc_bipush_24 ?_
  refine zr_newa (pc := 39) (n := 24) hx hb (hts _ (List.mem_of_getElem? (i := 4) rfl)) hK hS (by decide) dX1_init_39 (Nat.le_of_ble_eq_true rfl) (Nat.le_of_ble_eq_true rfl) hz (fun H hN hz1 hk hS => ?_)
  replace k_h := k_h.kept (hk _ (k_h).lt)
  replace k_0 := k_0.kept (hk _ (k_0).lt)
  replace k_1 := k_1.kept (hk _ (k_1).lt)
  replace k_2 := k_2.kept (hk _ (k_2).lt)
  replace k_3 := k_3.kept (hk _ (k_3).lt)
  have k_4 := hN
  replace hz : H.size = sz + 5 := hz1
  clear hz1 hk
  refine zr_putF (pc := 41) S hin hK k_h rfl i_X1 tyX1 tyX1_ok nmX1 5 (by decide) (List.mem_of_getElem? (i := 9) rfl) rfl rfl rfl rfl (Nat.le_of_ble_eq_true rfl) hS hAh dX1_init_41 (fun H locs hN hz1 hk hS => ?_)
  replace k_0 := k_0.kept (hk _ (k_0).lt (by omega))
  replace k_1 := k_1.kept (hk _ (k_1).lt (by omega))
  replace k_2 := k_2.kept (hk _ (k_2).lt (by omega))
  replace k_3 := k_3.kept (hk _ (k_3).lt (by omega))
  replace k_4 := k_4.kept (hk _ (k_4).lt (by omega))
  replace k_h := hN
  replace hz : H.size = sz + 5 := hz1.trans hz
  clear hz1 hk
  refine W.widen (k := 5) (n := 120) (Nat.le_of_ble_eq_true rfl) (Nat.le_of_ble_eq_true rfl) ?_
  exact W.vret hx hb hr (fun tz ht hW => ⟨⟨(), rfl, trivial, by dsimp only; rw [ht]; exact ⟨hz, k_h, k_0, k_1, k_2, k_3, k_4⟩⟩, hS.F ht⟩) hS.2.2 dX1_init_44
