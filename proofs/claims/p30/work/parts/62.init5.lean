/-! the stock's constructor: where its 127 cells lie -/
def offL : List Nat := [0, 1, 10, 13, 19, 2, 3, 4, 5, 6, 7, 8, 9, 11, 12, 14, 15, 16, 17, 18, 22, 23, 32, 35, 41, 24, 25, 26, 27, 28, 29, 30, 31, 33, 34, 36, 37, 38, 39, 40, 42, 43, 52, 55, 61, 44, 45, 46, 47, 48, 49, 50, 51, 53, 54, 56, 57, 58, 59, 60, 62, 63, 72, 75, 81, 64, 65, 66, 67, 68, 69, 70, 71, 73, 74, 76, 77, 78, 79, 80, 82, 83, 92, 95, 101, 84, 85, 86, 87, 88, 89, 90, 91, 93, 94, 96, 97, 98, 99, 100, 102, 103, 112, 115, 121, 104, 105, 106, 107, 108, 109, 110, 111, 113, 114, 116, 117, 118, 119, 120, 0, 122, 123, 124, 125, 20, 21]
def invL : List Nat := [0, 1, 5, 6, 7, 8, 9, 10, 11, 12, 2, 13, 14, 3, 15, 16, 17, 18, 19, 4, 125, 126, 20, 21, 25, 26, 27, 28, 29, 30, 31, 32, 22, 33, 34, 23, 35, 36, 37, 38, 39, 24, 40, 41, 45, 46, 47, 48, 49, 50, 51, 52, 42, 53, 54, 43, 55, 56, 57, 58, 59, 44, 60, 61, 65, 66, 67, 68, 69, 70, 71, 72, 62, 73, 74, 63, 75, 76, 77, 78, 79, 64, 80, 81, 85, 86, 87, 88, 89, 90, 91, 92, 82, 93, 94, 83, 95, 96, 97, 98, 99, 84, 100, 101, 105, 106, 107, 108, 109, 110, 111, 112, 102, 113, 114, 103, 115, 116, 117, 118, 119, 104, 121, 122, 123, 124]
def adF (h sz : Nat) : Nat → Nat := fun k => if k = 120 then h else sz + offL.getD k 0
theorem adF_n {h sz k : Nat} (hk : k ≠ 120) : adF h sz k = sz + offL.getD k 0 := if_neg hk
theorem offL_inv : ∀ k : Nat, k < 127 → k ≠ 120 → invL.getD (offL.getD k 0) 0 = k := by decide
theorem adF_J {h sz : Nat} (hh : h < sz) : zJ (adF h sz) 127 := by
  intro i j hi hj e
  by_cases ei : i = 120
  · by_cases ej : j = 120
    · rw [ei, ej]
    · rw [adF_n ej] at e
      have : adF h sz i = h := if_pos ei
      omega
  · by_cases ej : j = 120
    · rw [adF_n ei] at e
      have : adF h sz j = h := if_pos ej
      omega
    · rw [adF_n ei, adF_n ej] at e
      have h1 := offL_inv i hi ei
      have h2 := offL_inv j hj ej
      have h3 : offL.getD i 0 = offL.getD j 0 := by omega
      rw [← h1, ← h2, h3]
theorem adF_ge {h sz : Nat} (hh : h < sz) (k : Nat) : h ≤ adF h sz k := by
  unfold adF
  split <;> omega
theorem offL_lt : ∀ k : Nat, k < 127 → offL.getD k 0 < 126 := by decide
theorem adF_lt {h sz : Nat} (hh : h < sz) {k : Nat} (hk : k < 127) : adF h sz k < sz + 126 := by
  have := offL_lt k hk
  unfold adF
  split <;> omega
theorem adF_0 (h sz : Nat) (k : Nat) (hk : k < 20) : adF h sz k = oA sz (sz + 1) k := by
  match k, hk with
  | 0, _ => rfl
  | 1, _ => rfl
  | 2, _ => rfl
  | 3, _ => rfl
  | 4, _ => rfl
  | 5, _ => rfl
  | 6, _ => rfl
  | 7, _ => rfl
  | 8, _ => rfl
  | 9, _ => rfl
  | 10, _ => rfl
  | 11, _ => rfl
  | 12, _ => rfl
  | 13, _ => rfl
  | 14, _ => rfl
  | 15, _ => rfl
  | 16, _ => rfl
  | 17, _ => rfl
  | 18, _ => rfl
  | 19, _ => rfl
  | k + 20, hk => exact absurd hk (by omega)
theorem adF_j0 (h sz : Nat) (k : Nat) (hk : k < 20) : hd (adF h sz) 0 k = oA (sz + 22 + 20 * 0) (sz + 23 + 20 * 0) k := by
  match k, hk with
  | 0, _ => rfl
  | 1, _ => rfl
  | 2, _ => rfl
  | 3, _ => rfl
  | 4, _ => rfl
  | 5, _ => rfl
  | 6, _ => rfl
  | 7, _ => rfl
  | 8, _ => rfl
  | 9, _ => rfl
  | 10, _ => rfl
  | 11, _ => rfl
  | 12, _ => rfl
  | 13, _ => rfl
  | 14, _ => rfl
  | 15, _ => rfl
  | 16, _ => rfl
  | 17, _ => rfl
  | 18, _ => rfl
  | 19, _ => rfl
  | k + 20, hk => exact absurd hk (by omega)
theorem adF_j1 (h sz : Nat) (k : Nat) (hk : k < 20) : hd (adF h sz) 1 k = oA (sz + 22 + 20 * 1) (sz + 23 + 20 * 1) k := by
  match k, hk with
  | 0, _ => rfl
  | 1, _ => rfl
  | 2, _ => rfl
  | 3, _ => rfl
  | 4, _ => rfl
  | 5, _ => rfl
  | 6, _ => rfl
  | 7, _ => rfl
  | 8, _ => rfl
  | 9, _ => rfl
  | 10, _ => rfl
  | 11, _ => rfl
  | 12, _ => rfl
  | 13, _ => rfl
  | 14, _ => rfl
  | 15, _ => rfl
  | 16, _ => rfl
  | 17, _ => rfl
  | 18, _ => rfl
  | 19, _ => rfl
  | k + 20, hk => exact absurd hk (by omega)
theorem adF_j2 (h sz : Nat) (k : Nat) (hk : k < 20) : hd (adF h sz) 2 k = oA (sz + 22 + 20 * 2) (sz + 23 + 20 * 2) k := by
  match k, hk with
  | 0, _ => rfl
  | 1, _ => rfl
  | 2, _ => rfl
  | 3, _ => rfl
  | 4, _ => rfl
  | 5, _ => rfl
  | 6, _ => rfl
  | 7, _ => rfl
  | 8, _ => rfl
  | 9, _ => rfl
  | 10, _ => rfl
  | 11, _ => rfl
  | 12, _ => rfl
  | 13, _ => rfl
  | 14, _ => rfl
  | 15, _ => rfl
  | 16, _ => rfl
  | 17, _ => rfl
  | 18, _ => rfl
  | 19, _ => rfl
  | k + 20, hk => exact absurd hk (by omega)
theorem adF_j3 (h sz : Nat) (k : Nat) (hk : k < 20) : hd (adF h sz) 3 k = oA (sz + 22 + 20 * 3) (sz + 23 + 20 * 3) k := by
  match k, hk with
  | 0, _ => rfl
  | 1, _ => rfl
  | 2, _ => rfl
  | 3, _ => rfl
  | 4, _ => rfl
  | 5, _ => rfl
  | 6, _ => rfl
  | 7, _ => rfl
  | 8, _ => rfl
  | 9, _ => rfl
  | 10, _ => rfl
  | 11, _ => rfl
  | 12, _ => rfl
  | 13, _ => rfl
  | 14, _ => rfl
  | 15, _ => rfl
  | 16, _ => rfl
  | 17, _ => rfl
  | 18, _ => rfl
  | 19, _ => rfl
  | k + 20, hk => exact absurd hk (by omega)
theorem adF_j4 (h sz : Nat) (k : Nat) (hk : k < 20) : hd (adF h sz) 4 k = oA (sz + 22 + 20 * 4) (sz + 23 + 20 * 4) k := by
  match k, hk with
  | 0, _ => rfl
  | 1, _ => rfl
  | 2, _ => rfl
  | 3, _ => rfl
  | 4, _ => rfl
  | 5, _ => rfl
  | 6, _ => rfl
  | 7, _ => rfl
  | 8, _ => rfl
  | 9, _ => rfl
  | 10, _ => rfl
  | 11, _ => rfl
  | 12, _ => rfl
  | 13, _ => rfl
  | 14, _ => rfl
  | 15, _ => rfl
  | 16, _ => rfl
  | 17, _ => rfl
  | 18, _ => rfl
  | 19, _ => rfl
  | k + 20, hk => exact absurd hk (by omega)
theorem adF_j (h sz j : Nat) (hj : j < 5) (k : Nat) (hk : k < 20) : hd (adF h sz) j k = oA (sz + 22 + 20 * j) (sz + 23 + 20 * j) k := by
  rcases (show j = 0 ∨ j = 1 ∨ j = 2 ∨ j = 3 ∨ j = 4 by omega) with rfl | rfl | rfl | rfl | rfl
  · exact adF_j0 h sz k hk
  · exact adF_j1 h sz k hk
  · exact adF_j2 h sz k hk
  · exact adF_j3 h sz k hk
  · exact adF_j4 h sz k hk
set_option maxHeartbeats 4000000 in
set_option maxRecDepth 100000 in
theorem ct_X7_init (l : Launch) (D : va_G) (cI cT : ClassId) (h sz : Nat) (hh : h < sz) : zMn l yX7_init wsX7_init ({ frames := 4, cells := 126, slots := 3852, locals := 81 }) D cI cT [.ref h] sz (fun U H => va_at D vwCl (h, .inr (7, [.null, .null, .null, .null])) H ∧ va_AO "CostumeStock$State" U) (fun H => H.size = sz + 126 ∧ zW D (adF h sz) 20 (sC cI (adF h sz) σ00) H ∧ hO1 D (adF h sz) 0 0 H ∧ hO2 D cT (adF h sz) H ∧ hQs D cI (adF h sz) (fun _ => σ00) H ∧ cY D cI (adF h sz) 0 (fun _ => 0) (fun _ => 0) (fun _ => 0) H) (fun q => q = h ∨ sz ≤ q) 126 3852 := by
  refine Met.ofW (cc := cX7_init) (maxL := 1) (ret := none) (by decide) rfl ?_
  intro p_ e_ s m_ args below meth c_ s₁ B hml hv
  obtain ⟨rfl, hz, hK, k_h⟩ := hv
  have hx := B.exec
  have hb := B.bytes
  have hr := B.returns
  have hts := atoms_spec (ws := wsX7_init) B.pre
  have hown : s.vm.findClass RX7 = some m_.cls := findClass_of_methodNamed B.named
  have hlocks := B.notSynchronized
  have hin : meth.name = "<init>" := (name_of_methodNamed B.named B.method).1
  have S : CallFix p_ m_ c_ cX7_init 1 s _ wsX7_init RX7 := ⟨hx, hb, hml, hown, hts⟩
  have i_X0 : ∀ w ∈ u_ws RX0 TX0 3, w ∈ wsX7_init := fun _ h => List.mem_cons_of_mem _ (List.mem_append_left _ (List.mem_append_right _ h))
  have i_X1 : ∀ w ∈ u_ws RX1 TX1 6, w ∈ wsX7_init := fun _ h => List.mem_cons_of_mem _ (List.mem_append_right _ h)
  have i_X2 : ∀ w ∈ u_ws RX2 TX2 3, w ∈ wsX7_init := fun _ h => List.mem_cons_of_mem _ (List.mem_append_left _ (List.mem_append_left _ (List.mem_append_left _ (List.mem_append_left _ (List.mem_append_left _ (List.mem_append_right _ h))))))
  have i_X3 : ∀ w ∈ u_ws RX3 TX3 8, w ∈ wsX7_init := fun _ h => List.mem_cons_of_mem _ (List.mem_append_left _ (List.mem_append_left _ (List.mem_append_left _ (List.mem_append_right _ h))))
  have i_X4 : ∀ w ∈ u_ws RX4 TX4 9, w ∈ wsX7_init := fun _ h => List.mem_cons_of_mem _ (List.mem_append_left _ (List.mem_append_left _ (List.mem_append_left _ (List.mem_append_left _ (List.mem_append_left _ (List.mem_append_left _ (List.mem_append_left _ (List.mem_append_right _ h))))))))
  have i_X5 : ∀ w ∈ u_ws RX5 TX5 2, w ∈ wsX7_init := fun _ h => List.mem_cons_of_mem _ (List.mem_append_left _ (List.mem_append_left _ (List.mem_append_left _ (List.mem_append_left _ (List.mem_append_right _ h)))))
  have i_X6 : ∀ w ∈ u_ws RX6 TX6 9, w ∈ wsX7_init := fun _ h => List.mem_cons_of_mem _ (List.mem_append_left _ (List.mem_append_left _ (List.mem_append_right _ h)))
  have i_X7 : ∀ w ∈ u_ws RX7 TX7 4, w ∈ wsX7_init := fun _ h => List.mem_cons_of_mem _ (List.mem_append_left _ (List.mem_append_left _ (List.mem_append_left _ (List.mem_append_left _ (List.mem_append_left _ (List.mem_append_left _ (List.mem_append_right _ h)))))))
  generalize hAe : (fun (q : Nat) => q = h ∨ sz ≤ q) = A
  have hAs : ∀ q : Nat, sz ≤ q → A q := fun q hq => by rw [← hAe]; exact Or.inr hq
  have hAn : ∀ q : Nat, s.heap.size ≤ q → A q := fun q hq => hAs q (by omega)
  have hAh : A h := by rw [← hAe]; exact Or.inl rfl
  obtain ⟨H, hHe⟩ : ∃ H : Heap, H = s.heap := ⟨_, rfl⟩
  rw [← hHe] at k_h hz ⊢
  have hS : va_S A s.heap H [] := by rw [hHe]; exact va_S.rf
  have hAO := k_h.2
  replace k_h := k_h.1
  have hl := lv_entry ([.ref h]) (n := 1) (Nat.le_of_ble_eq_true rfl)
  rw [lg_entry_eq]
  generalize (lg_sl ([.ref h]) ++ List.replicate (1 - (lg_sl ([.ref h])).length) Slot.unset).toArray = ls at hl ⊢
  have hl : lv_has ls 1 [(0, .ref h)] := hl
  refine lv_aload_n (pc := 0) hx hb dX7_init_0 rfl (lv_at hl 0 rfl) ?_
  refine zr_obj (pc := 1) hx hb hown (hml.trans hl.1.symm) (hts _ (List.mem_of_getElem? (i := 1) rfl)) (hts _ (List.mem_of_getElem? (i := 2) rfl)) (hts _ (List.mem_of_getElem? (i := 3) rfl)) (Nat.le_of_ble_eq_true rfl) (Nat.le_of_ble_eq_true rfl) dX7_init_1 ?_
  refine lv_aload_n (pc := 4) hx hb dX7_init_4 rfl (lv_at hl 0 rfl) ?_
  refine zr_new (pc := 5) (ci := 4) hx hb hts i_X4 tyX4 tyX4_ok hown (hts _ (List.mem_of_getElem? (i := 4) rfl)) (hts _ (List.mem_of_getElem? (i := 5) rfl)) (hts _ (List.mem_of_getElem? (i := 6) rfl)) hK hS rfl [.null, .null, .null, .null, .int (zI 0), .int (zI 0), .int (zI 0), .int (zI 0), .int (zI 0)] (fun j hj => by rcases (show j = 0 ∨ j = 1 ∨ j = 2 ∨ j = 3 ∨ j = 4 ∨ j = 5 ∨ j = 6 ∨ j = 7 ∨ j = 8 by omega) with rfl | rfl | rfl | rfl | rfl | rfl | rfl | rfl | rfl <;> rfl) (Nat.le_of_ble_eq_true rfl) (Nat.le_of_ble_eq_true rfl) dX7_init_5 hz (fun H hN hz1 hk hS => ?_)
  replace k_h := k_h.kept (hk _ (k_h).lt)
  have k_0 := hN
  replace hz : H.size = sz + 1 := hz1
  clear hz1 hk
  refine lv_dup (pc := 8) hx hb dX7_init_8 rfl ?_
  refine zr_iN (pc := 9) (As := []) (rest := [.ref sz, .ref h]) (sz := sz + 1) S (ct_X4_init l D cI cT sz (sz + 1) (by omega)) ⟨va_cnB 0 hts gX7_init_X4_init_n9 rfl rfl rfl (zK_nest hK 0 rfl) (hts _ (List.mem_of_getElem? (i := 6) rfl)) (by decide +kernel) ⟨(Nat.le_of_ble_eq_true rfl), (Nat.le_of_ble_eq_true rfl)⟩, rfl, hts _ (List.mem_of_getElem? (i := 20) rfl)⟩ zs0 hK k_0 hz hS (fun q z => z.elim (fun e => hAs _ (by omega)) (fun e => hAs _ (by omega))) rfl hl.1 rfl (Nat.le_of_ble_eq_true rfl) dX7_init_9 ⟨(Nat.le_of_ble_eq_true rfl), (Nat.le_of_ble_eq_true rfl)⟩ (fun H locs hG hk hS => ?_)
  replace k_h := k_h.kept (hk _ (k_h).lt (by omega))
  clear hz hk k_0
  obtain ⟨hz, w_0⟩ := hG
  replace hz : H.size = sz + 20 := hz
  refine zr_putF (pc := 12) S hin hK k_h rfl i_X7 tyX7 tyX7_ok nmX7 0 (by decide) (List.mem_of_getElem? (i := 7) rfl) rfl rfl rfl rfl (Nat.le_of_ble_eq_true rfl) hS hAh dX7_init_12 (fun H locs hN hz1 hk hS => ?_)
  replace w_0 : zW D (oA sz (sz + 1)) 20 (sC cI (oA sz (sz + 1)) σ00) H := fun k hk0 => (w_0 k hk0).kept (hk _ (w_0 k hk0).lt (by have := oA_r (h := sz) (sz := (sz + 1)) (by omega) hk0; omega))
  replace k_h := hN
  replace hz : H.size = sz + 20 := hz1.trans hz
  clear hz1 hk
  refine lv_aload_n (pc := 15) hx hb dX7_init_15 rfl (lv_at hl 0 rfl) ?_
  refine zr_new (pc := 16) (ci := 2) hx hb hts i_X2 tyX2 tyX2_ok hown (hts _ (List.mem_of_getElem? (i := 8) rfl)) (hts _ (List.mem_of_getElem? (i := 9) rfl)) (hts _ (List.mem_of_getElem? (i := 10) rfl)) hK hS rfl [.int (zI 0), .int (zI 0), .null] (fun j hj => by rcases (show j = 0 ∨ j = 1 ∨ j = 2 by omega) with rfl | rfl | rfl <;> rfl) (Nat.le_of_ble_eq_true rfl) (Nat.le_of_ble_eq_true rfl) dX7_init_16 hz (fun H hN hz1 hk hS => ?_)
  replace k_h := k_h.kept (hk _ (k_h).lt)
  replace w_0 : zW D (oA sz (sz + 1)) 20 (sC cI (oA sz (sz + 1)) σ00) H := fun k hk0 => (w_0 k hk0).kept (hk _ (w_0 k hk0).lt)
  have k_20 := hN
  replace hz : H.size = sz + 21 := hz1
  clear hz1 hk
  refine lv_dup (pc := 19) hx hb dX7_init_19 rfl ?_
  refine zr_iI (pc := 20) (As := []) (rest := [.ref (sz + 20), .ref h]) (sz := sz + 21) S (ct_X2_init l D cI cT (sz + 20) (sz + 21) (by omega)) (cwI 0 hts gX7_init_X2_init rfl rfl rfl (hts _ (List.mem_of_getElem? (i := 10) rfl)) (hts _ (List.mem_of_getElem? (i := 61) rfl)) (hts _ (List.mem_of_getElem? (i := 62) rfl)) rfl (by decide +kernel) ⟨(Nat.le_of_ble_eq_true rfl), (Nat.le_of_ble_eq_true rfl)⟩) zs_AO hK ⟨k_20, hAO⟩ hz hS (fun q z => z.elim (fun e => hAs _ (by omega)) (fun e => hAs _ (by omega))) rfl hl.1 rfl (Nat.le_of_ble_eq_true rfl) dX7_init_20 ⟨(Nat.le_of_ble_eq_true rfl), (Nat.le_of_ble_eq_true rfl)⟩ (fun H locs hG hk hS => ?_)
  replace k_h := k_h.kept (hk _ (k_h).lt (by omega))
  replace w_0 : zW D (oA sz (sz + 1)) 20 (sC cI (oA sz (sz + 1)) σ00) H := fun k hk0 => (w_0 k hk0).kept (hk _ (w_0 k hk0).lt (by have := oA_r (h := sz) (sz := (sz + 1)) (by omega) hk0; omega))
  clear hz hk
  obtain ⟨hz, k_20, k_21, hws⟩ := hG
  replace hz : H.size = sz + 122 := hz
  replace k_21 : va_at D vwCl (sz + 21, .inl (cT, 5, .inr (.inr (.inr (.inr (fun j => some (sz + 22 + 20 * j))))))) H := k_21
  replace hws : ∀ j : Nat, j < 5 → zW D (oA (sz + 22 + 20 * j) (sz + 23 + 20 * j)) 20 (sC cI (oA (sz + 22 + 20 * j) (sz + 23 + 20 * j)) σ00) H := hws
  refine zr_putF (pc := 23) S hin hK k_h rfl i_X7 tyX7 tyX7_ok nmX7 1 (by decide) (List.mem_of_getElem? (i := 11) rfl) rfl rfl rfl rfl (Nat.le_of_ble_eq_true rfl) hS hAh dX7_init_23 (fun H locs hN hz1 hk hS => ?_)
  replace k_20 := k_20.kept (hk _ (k_20).lt (by omega))
  replace k_21 := k_21.kept (hk _ (k_21).lt (by omega))
  replace w_0 : zW D (oA sz (sz + 1)) 20 (sC cI (oA sz (sz + 1)) σ00) H := fun k hk0 => (w_0 k hk0).kept (hk _ (w_0 k hk0).lt (by have := oA_r (h := sz) (sz := (sz + 1)) (by omega) hk0; omega))
  replace hws : ∀ j : Nat, j < 5 → zW D (oA (sz + 22 + 20 * j) (sz + 23 + 20 * j)) 20 (sC cI (oA (sz + 22 + 20 * j) (sz + 23 + 20 * j)) σ00) H := fun j hj k hk0 => (hws j hj k hk0).kept (hk _ (hws j hj k hk0).lt (by have := oA_r (h := sz + 22 + 20 * j) (sz := sz + 23 + 20 * j) (by omega) hk0; omega))
  replace k_h := hN
  replace hz : H.size = sz + 122 := hz1.trans hz
  clear hz1 hk
  refine lv_aload_n (pc := 26) hx hb dX7_init_26 rfl (lv_at hl 0 rfl) ?_
  refine zr_new (pc := 27) (ci := 5) hx hb hts i_X5 tyX5 tyX5_ok hown (hts _ (List.mem_of_getElem? (i := 12) rfl)) (hts _ (List.mem_of_getElem? (i := 13) rfl)) (hts _ (List.mem_of_getElem? (i := 14) rfl)) hK hS rfl [.int (zI 0), .null] (fun j hj => by rcases (show j = 0 ∨ j = 1 by omega) with rfl | rfl <;> rfl) (Nat.le_of_ble_eq_true rfl) (Nat.le_of_ble_eq_true rfl) dX7_init_27 hz (fun H hN hz1 hk hS => ?_)
  replace k_h := k_h.kept (hk _ (k_h).lt)
  replace k_20 := k_20.kept (hk _ (k_20).lt)
  replace k_21 := k_21.kept (hk _ (k_21).lt)
  replace w_0 : zW D (oA sz (sz + 1)) 20 (sC cI (oA sz (sz + 1)) σ00) H := fun k hk0 => (w_0 k hk0).kept (hk _ (w_0 k hk0).lt)
  replace hws : ∀ j : Nat, j < 5 → zW D (oA (sz + 22 + 20 * j) (sz + 23 + 20 * j)) 20 (sC cI (oA (sz + 22 + 20 * j) (sz + 23 + 20 * j)) σ00) H := fun j hj k hk0 => (hws j hj k hk0).kept (hk _ (hws j hj k hk0).lt)
  have k_122 := hN
  replace hz : H.size = sz + 123 := hz1
  clear hz1 hk
  refine lv_dup (pc := 30) hx hb dX7_init_30 rfl ?_
  refine zr_iN (pc := 31) (As := []) (rest := [.ref (sz + 122), .ref h]) (sz := sz + 123) S (ct_X5_init l D cI cT (sz + 122) (sz + 123) (by omega)) ⟨va_cnB 0 hts gX7_init_X5_init_n25 rfl rfl rfl (zK_nest hK 5 rfl) (hts _ (List.mem_of_getElem? (i := 14) rfl)) (by decide +kernel) ⟨(Nat.le_of_ble_eq_true rfl), (Nat.le_of_ble_eq_true rfl)⟩, rfl, hts _ (List.mem_of_getElem? (i := 67) rfl)⟩ zs0 hK k_122 hz hS (fun q z => z.elim (fun e => hAs _ (by omega)) (fun e => hAs _ (by omega))) rfl hl.1 rfl (Nat.le_of_ble_eq_true rfl) dX7_init_31 ⟨(Nat.le_of_ble_eq_true rfl), (Nat.le_of_ble_eq_true rfl)⟩ (fun H locs hG hk hS => ?_)
  replace k_h := k_h.kept (hk _ (k_h).lt (by omega))
  replace k_20 := k_20.kept (hk _ (k_20).lt (by omega))
  replace k_21 := k_21.kept (hk _ (k_21).lt (by omega))
  replace w_0 : zW D (oA sz (sz + 1)) 20 (sC cI (oA sz (sz + 1)) σ00) H := fun k hk0 => (w_0 k hk0).kept (hk _ (w_0 k hk0).lt (by have := oA_r (h := sz) (sz := (sz + 1)) (by omega) hk0; omega))
  replace hws : ∀ j : Nat, j < 5 → zW D (oA (sz + 22 + 20 * j) (sz + 23 + 20 * j)) 20 (sC cI (oA (sz + 22 + 20 * j) (sz + 23 + 20 * j)) σ00) H := fun j hj k hk0 => (hws j hj k hk0).kept (hk _ (hws j hj k hk0).lt (by have := oA_r (h := sz + 22 + 20 * j) (sz := sz + 23 + 20 * j) (by omega) hk0; omega))
  clear hz hk
  obtain ⟨hz, k_122, k_123⟩ := hG
  replace hz : H.size = sz + 124 := hz
  replace k_123 : va_at D vwCl (sz + 123, .inl (cI, 120, .inl (zf (fun _ => 0)))) H := k_123
  refine zr_putF (pc := 34) S hin hK k_h rfl i_X7 tyX7 tyX7_ok nmX7 2 (by decide) (List.mem_of_getElem? (i := 15) rfl) rfl rfl rfl rfl (Nat.le_of_ble_eq_true rfl) hS hAh dX7_init_34 (fun H locs hN hz1 hk hS => ?_)
  replace k_20 := k_20.kept (hk _ (k_20).lt (by omega))
  replace k_21 := k_21.kept (hk _ (k_21).lt (by omega))
  replace k_122 := k_122.kept (hk _ (k_122).lt (by omega))
  replace k_123 := k_123.kept (hk _ (k_123).lt (by omega))
  replace w_0 : zW D (oA sz (sz + 1)) 20 (sC cI (oA sz (sz + 1)) σ00) H := fun k hk0 => (w_0 k hk0).kept (hk _ (w_0 k hk0).lt (by have := oA_r (h := sz) (sz := (sz + 1)) (by omega) hk0; omega))
  replace hws : ∀ j : Nat, j < 5 → zW D (oA (sz + 22 + 20 * j) (sz + 23 + 20 * j)) 20 (sC cI (oA (sz + 22 + 20 * j) (sz + 23 + 20 * j)) σ00) H := fun j hj k hk0 => (hws j hj k hk0).kept (hk _ (hws j hj k hk0).lt (by have := oA_r (h := sz + 22 + 20 * j) (sz := sz + 23 + 20 * j) (by omega) hk0; omega))
  replace k_h := hN
  replace hz : H.size = sz + 124 := hz1.trans hz
  clear hz1 hk
  refine lv_aload_n (pc := 37) hx hb dX7_init_37 rfl (lv_at hl 0 rfl) ?_
  refine zr_new (pc := 38) (ci := 3) hx hb hts i_X3 tyX3 tyX3_ok hown (hts _ (List.mem_of_getElem? (i := 16) rfl)) (hts _ (List.mem_of_getElem? (i := 17) rfl)) (hts _ (List.mem_of_getElem? (i := 18) rfl)) hK hS rfl [.int (zI 0), .int (zI 0), .int (zI 0), .int (zI 0), .int (zI 0), .int (zI 0), .null, .null] (fun j hj => by rcases (show j = 0 ∨ j = 1 ∨ j = 2 ∨ j = 3 ∨ j = 4 ∨ j = 5 ∨ j = 6 ∨ j = 7 by omega) with rfl | rfl | rfl | rfl | rfl | rfl | rfl | rfl <;> rfl) (Nat.le_of_ble_eq_true rfl) (Nat.le_of_ble_eq_true rfl) dX7_init_38 hz (fun H hN hz1 hk hS => ?_)
  replace k_h := k_h.kept (hk _ (k_h).lt)
  replace k_20 := k_20.kept (hk _ (k_20).lt)
  replace k_21 := k_21.kept (hk _ (k_21).lt)
  replace k_122 := k_122.kept (hk _ (k_122).lt)
  replace k_123 := k_123.kept (hk _ (k_123).lt)
  replace w_0 : zW D (oA sz (sz + 1)) 20 (sC cI (oA sz (sz + 1)) σ00) H := fun k hk0 => (w_0 k hk0).kept (hk _ (w_0 k hk0).lt)
  replace hws : ∀ j : Nat, j < 5 → zW D (oA (sz + 22 + 20 * j) (sz + 23 + 20 * j)) 20 (sC cI (oA (sz + 22 + 20 * j) (sz + 23 + 20 * j)) σ00) H := fun j hj k hk0 => (hws j hj k hk0).kept (hk _ (hws j hj k hk0).lt)
  have k_124 := hN
  replace hz : H.size = sz + 125 := hz1
  clear hz1 hk
  refine lv_dup (pc := 41) hx hb dX7_init_41 rfl ?_
  refine lv_aload_n (pc := 42) hx hb dX7_init_42 rfl (lv_at hl 0 rfl) ?_
  refine zr_get (pc := 43) S hK k_h rfl i_X7 2 (by decide) (List.mem_of_getElem? (i := 15) rfl) rfl dX7_init_43 ?_
  refine zr_iI (pc := 46) (As := [.ref (sz + 122)]) (rest := [.ref (sz + 124), .ref h]) (sz := sz + 125) S (ct_X3_init l D cI cT (sz + 124) (sz + 125) (by omega) (sz + 122)) (cwI 1 hts gX7_init_X3_init rfl rfl rfl (hts _ (List.mem_of_getElem? (i := 18) rfl)) (hts _ (List.mem_of_getElem? (i := 71) rfl)) (hts _ (List.mem_of_getElem? (i := 72) rfl)) rfl (by decide +kernel) ⟨(Nat.le_of_ble_eq_true rfl), (Nat.le_of_ble_eq_true rfl)⟩) zs0 hK k_124 hz hS (fun q z => z.elim (fun e => hAs _ (by omega)) (fun e => hAs _ (by omega))) rfl hl.1 rfl (Nat.le_of_ble_eq_true rfl) dX7_init_46 ⟨(Nat.le_of_ble_eq_true rfl), (Nat.le_of_ble_eq_true rfl)⟩ (fun H locs hG hk hS => ?_)
  replace k_h := k_h.kept (hk _ (k_h).lt (by omega))
  replace k_20 := k_20.kept (hk _ (k_20).lt (by omega))
  replace k_21 := k_21.kept (hk _ (k_21).lt (by omega))
  replace k_122 := k_122.kept (hk _ (k_122).lt (by omega))
  replace k_123 := k_123.kept (hk _ (k_123).lt (by omega))
  replace w_0 : zW D (oA sz (sz + 1)) 20 (sC cI (oA sz (sz + 1)) σ00) H := fun k hk0 => (w_0 k hk0).kept (hk _ (w_0 k hk0).lt (by have := oA_r (h := sz) (sz := (sz + 1)) (by omega) hk0; omega))
  replace hws : ∀ j : Nat, j < 5 → zW D (oA (sz + 22 + 20 * j) (sz + 23 + 20 * j)) 20 (sC cI (oA (sz + 22 + 20 * j) (sz + 23 + 20 * j)) σ00) H := fun j hj k hk0 => (hws j hj k hk0).kept (hk _ (hws j hj k hk0).lt (by have := oA_r (h := sz + 22 + 20 * j) (sz := sz + 23 + 20 * j) (by omega) hk0; omega))
  clear hz hk
  obtain ⟨hz, k_124, k_125⟩ := hG
  replace hz : H.size = sz + 126 := hz
  replace k_125 : va_at D vwCl (sz + 125, .inl (cI, 168, .inl (zf (fun _ => 0)))) H := k_125
  refine zr_putF (pc := 49) S hin hK k_h rfl i_X7 tyX7 tyX7_ok nmX7 3 (by decide) (List.mem_of_getElem? (i := 19) rfl) rfl rfl rfl rfl (Nat.le_of_ble_eq_true rfl) hS hAh dX7_init_49 (fun H locs hN hz1 hk hS => ?_)
  replace k_20 := k_20.kept (hk _ (k_20).lt (by omega))
  replace k_21 := k_21.kept (hk _ (k_21).lt (by omega))
  replace k_122 := k_122.kept (hk _ (k_122).lt (by omega))
  replace k_123 := k_123.kept (hk _ (k_123).lt (by omega))
  replace k_124 := k_124.kept (hk _ (k_124).lt (by omega))
  replace k_125 := k_125.kept (hk _ (k_125).lt (by omega))
  replace w_0 : zW D (oA sz (sz + 1)) 20 (sC cI (oA sz (sz + 1)) σ00) H := fun k hk0 => (w_0 k hk0).kept (hk _ (w_0 k hk0).lt (by have := oA_r (h := sz) (sz := (sz + 1)) (by omega) hk0; omega))
  replace hws : ∀ j : Nat, j < 5 → zW D (oA (sz + 22 + 20 * j) (sz + 23 + 20 * j)) 20 (sC cI (oA (sz + 22 + 20 * j) (sz + 23 + 20 * j)) σ00) H := fun j hj k hk0 => (hws j hj k hk0).kept (hk _ (hws j hj k hk0).lt (by have := oA_r (h := sz + 22 + 20 * j) (sz := sz + 23 + 20 * j) (by omega) hk0; omega))
  replace k_h := hN
  replace hz : H.size = sz + 126 := hz1.trans hz
  clear hz1 hk
  refine W.widen (k := 126) (n := 3852) (Nat.le_of_ble_eq_true rfl) (Nat.le_of_ble_eq_true rfl) ?_
  exact W.vret hx hb hr (fun tz ht hW => ⟨⟨(), rfl, trivial, by dsimp only; rw [ht]; exact ⟨hz, zW_sC w_0 (adF_0 h sz), k_20, zq_ext k_21 (fun j hj => by rcases (show j = 0 ∨ j = 1 ∨ j = 2 ∨ j = 3 ∨ j = 4 by omega) with rfl | rfl | rfl | rfl | rfl <;> rfl), fun j hj => zW_sC (hws j hj) (adF_j h sz j hj), k_h, k_122, k_123, k_124, k_125⟩⟩, hS.F ht⟩) hS.2.2 dX7_init_52
