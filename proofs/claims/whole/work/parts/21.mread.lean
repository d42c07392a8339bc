set_option maxHeartbeats 4000000 in
set_option maxRecDepth 100000 in
theorem ct_X8_in (l : Launch) (D : va_G) (cI cT : ClassId) (a : Int) (b : Int) (d : Int) (r_a : -9223372036854775808 ≤ a ∧ a ≤ 9223372036854775807) (r_b : -9223372036854775808 ≤ b ∧ b ≤ 9223372036854775807) (r_d : -9223372036854775808 ≤ d ∧ d ≤ 9223372036854775807) : zMr l yX8_in wsX8_in ({ frames := 0, cells := 0, slots := 0, locals := 0 }) D cI cT [.long (zL (a)), .long (zL (b)), .long (zL (d))] (fun _ _ => True) (fun r => bz (b ≤ a ∧ a ≤ d) r) := by
  refine Met.ofW (cc := cX8_in) (maxL := 6) (ret := (some .boolean)) (by decide) rfl ?_
  intro p_ e_ s m_ args below meth c_ s₁ B hml hv
  obtain ⟨rfl, hK, hF⟩ := hv
  have hx := B.exec
  have hb := B.bytes
  have hr := B.returns
  have hts := atoms_spec (ws := wsX8_in) B.pre
  have hown : s.vm.findClass RX8 = some m_.cls := findClass_of_methodNamed B.named
  have hlocks := B.notSynchronized
  have S : CallFix p_ m_ c_ cX8_in 6 s _ wsX8_in RX8 := ⟨hx, hb, hml, hown, hts⟩
  have hl := lv_entry ([.long (zL (a)), .long (zL (b)), .long (zL (d))]) (n := 6) (Nat.le_of_ble_eq_true rfl)
  rw [lg_entry_eq]
  generalize (lg_sl ([.long (zL (a)), .long (zL (b)), .long (zL (d))]) ++ List.replicate (6 - (lg_sl ([.long (zL (a)), .long (zL (b)), .long (zL (d))])).length) Slot.unset).toArray = ls at hl ⊢
  have hl : lv_has ls 6 [(0, .long (zL (a))), (2, .long (zL (b))), (4, .long (zL (d)))] := hl
  refine lv_lload_n (pc := 0) hx hb dX8_in_0 rfl (lv_at hl 0 rfl) ?_
  refine lv_lload_n (pc := 1) hx hb dX8_in_1 rfl (lv_at hl 1 rfl) ?_
  refine zr_lcmp_lt (pc := 2) (tgt := 17) hx hb dX8_in_2 dX8_in_3 (by decide) (by omega) (by omega) (fun c_3 => ?_) (fun c_3 => ?_)
  · refine lv_iconst (pc := 17) (v := zI 0) hx hb dX8_in_17 rfl ?_
    exact W.zret (ty := .boolean) (v := zI (0)) hx hb hr (by first | rfl | decide) (fun tz ht hW => ⟨_, rfl, bz_f (by omega), ht⟩) (fun _ h => by cases h) dX8_in_18
  · refine lv_lload_n (pc := 6) hx hb dX8_in_6 rfl (lv_at hl 0 rfl) ?_
    refine lv_lload (pc := 7) hx hb dX8_in_7 (lv_at hl 2 rfl) ?_
    refine zr_lcmp_gt (pc := 9) (tgt := 17) hx hb dX8_in_9 dX8_in_10 (by decide) (by omega) (by omega) (fun c_10 => ?_) (fun c_10 => ?_)
    · refine lv_iconst (pc := 17) (v := zI 0) hx hb dX8_in_17 rfl ?_
      exact W.zret (ty := .boolean) (v := zI (0)) hx hb hr (by first | rfl | decide) (fun tz ht hW => ⟨_, rfl, bz_f (by omega), ht⟩) (fun _ h => by cases h) dX8_in_18
    · refine lv_iconst (pc := 13) (v := zI 1) hx hb dX8_in_13 rfl ?_
      refine lv_goto (pc := 14) (tgt := 18) hx hb dX8_in_14 (by decide) ?_
      exact W.zret (ty := .boolean) (v := zI (1)) hx hb hr (by first | rfl | decide) (fun tz ht hW => ⟨_, rfl, bz_t (by omega), ht⟩) (fun _ h => by cases h) dX8_in_18
set_option maxHeartbeats 4000000 in
set_option maxRecDepth 100000 in
theorem ct_X8_distance (l : Launch) (D : va_G) (cI cT : ClassId) (a : Int) (b : Int) (r_a : -100000 ≤ a ∧ a ≤ 100000) (r_b : -100000 ≤ b ∧ b ≤ 100000) : zMr l yX8_distance wsX8_distance ({ frames := 0, cells := 0, slots := 0, locals := 0 }) D cI cT [.int (zI (a)), .int (zI (b))] (fun _ _ => True) (fun r => r = zI (zabs (a - b))) := by
  refine Met.ofW (cc := cX8_distance) (maxL := 2) (ret := (some .int)) (by decide) rfl ?_
  intro p_ e_ s m_ args below meth c_ s₁ B hml hv
  obtain ⟨rfl, hK, hF⟩ := hv
  have hx := B.exec
  have hb := B.bytes
  have hr := B.returns
  have hts := atoms_spec (ws := wsX8_distance) B.pre
  have hown : s.vm.findClass RX8 = some m_.cls := findClass_of_methodNamed B.named
  have hlocks := B.notSynchronized
  have S : CallFix p_ m_ c_ cX8_distance 2 s _ wsX8_distance RX8 := ⟨hx, hb, hml, hown, hts⟩
  have hl := lv_entry ([.int (zI (a)), .int (zI (b))]) (n := 2) (Nat.le_of_ble_eq_true rfl)
  rw [lg_entry_eq]
  generalize (lg_sl ([.int (zI (a)), .int (zI (b))]) ++ List.replicate (2 - (lg_sl ([.int (zI (a)), .int (zI (b))])).length) Slot.unset).toArray = ls at hl ⊢
  have hl : lv_has ls 2 [(0, .int (zI (a))), (1, .int (zI (b)))] := hl
  refine lv_iload_n (pc := 0) hx hb dX8_distance_0 rfl (lv_at hl 0 rfl) ?_
  refine lv_iload_n (pc := 1) hx hb dX8_distance_1 rfl (lv_at hl 1 rfl) ?_
  refine zr_icmp_ge (pc := 2) (tgt := 11) hx hb dX8_distance_2 (by decide) (by omega) (by omega) (fun c_2 => ?_) (fun c_2 => ?_)
  · refine lv_iload_n (pc := 11) hx hb dX8_distance_11 rfl (lv_at hl 0 rfl) ?_
    refine lv_iload_n (pc := 12) hx hb dX8_distance_12 rfl (lv_at hl 1 rfl) ?_
    refine zr_isub (pc := 13) (d := a - b) hx hb dX8_distance_13 rfl ?_
    exact W.iret (v := zI (a - b)) hx hb hr (fun tz ht hW => ⟨_, rfl, congrArg zI (by first | (rw [zabs_n (by omega)]; omega) | (rw [zabs_p (by omega)])), ht⟩) (fun _ h => by cases h) dX8_distance_14
  · refine lv_iload_n (pc := 5) hx hb dX8_distance_5 rfl (lv_at hl 1 rfl) ?_
    refine lv_iload_n (pc := 6) hx hb dX8_distance_6 rfl (lv_at hl 0 rfl) ?_
    refine zr_isub (pc := 7) (d := b - a) hx hb dX8_distance_7 rfl ?_
    refine lv_goto (pc := 8) (tgt := 14) hx hb dX8_distance_8 (by decide) ?_
    exact W.iret (v := zI (b - a)) hx hb hr (fun tz ht hW => ⟨_, rfl, congrArg zI (by first | (rw [zabs_n (by omega)]; omega) | (rw [zabs_p (by omega)])), ht⟩) (fun _ h => by cases h) dX8_distance_14
set_option maxHeartbeats 4000000 in
set_option maxRecDepth 100000 in
theorem ct_X8_isScene (l : Launch) (D : va_G) (cI cT : ClassId) (a : Int) (r_a : -2147483648 ≤ a ∧ a ≤ 2147483647) : zMr l yX8_isScene wsX8_isScene ({ frames := 1, cells := 0, slots := 0, locals := 25 }) D cI cT [.int (zI (a))] (fun _ _ => True) (fun r => bz (0 ≤ a ∧ a < 12) r) := by
  refine Met.ofW (cc := cX8_isScene) (maxL := 1) (ret := (some .boolean)) (by decide) rfl ?_
  intro p_ e_ s m_ args below meth c_ s₁ B hml hv
  obtain ⟨rfl, hK, hF⟩ := hv
  have hx := B.exec
  have hb := B.bytes
  have hr := B.returns
  have hts := atoms_spec (ws := wsX8_isScene) B.pre
  have hown : s.vm.findClass RX8 = some m_.cls := findClass_of_methodNamed B.named
  have hlocks := B.notSynchronized
  have S : CallFix p_ m_ c_ cX8_isScene 1 s _ wsX8_isScene RX8 := ⟨hx, hb, hml, hown, hts⟩
  have hl := lv_entry ([.int (zI (a))]) (n := 1) (Nat.le_of_ble_eq_true rfl)
  rw [lg_entry_eq]
  generalize (lg_sl ([.int (zI (a))]) ++ List.replicate (1 - (lg_sl ([.int (zI (a))])).length) Slot.unset).toArray = ls at hl ⊢
  have hl : lv_has ls 1 [(0, .int (zI (a)))] := hl
  refine lv_iload_n (pc := 0) hx hb dX8_isScene_0 rfl (lv_at hl 0 rfl) ?_
  refine zr_i2l (pc := 1) hx hb dX8_isScene_1 (by omega) ?_
  refine lv_lconst (pc := 2) (v := zL 0) hx hb dX8_isScene_2 rfl ?_
  refine zr_ldc2 (pc := 3) (w := 11) hx hb hown (hts _ (List.mem_of_getElem? (i := 1) rfl)) dX8_isScene_3 (by decide +kernel) ?_
  refine zr_si (pc := 6) (As := [.long (zL (a)), .long (zL (0)), .long (zL (11))]) (rest := []) S (ct_X8_in l D cI cT a 0 11 (by omega) (by decide) (by decide)) (va_cwS 3 hts gX8_isScene_X8_in rfl rfl rfl (by decide +kernel) ⟨Nat.le_of_ble_eq_true rfl, Nat.le_of_ble_eq_true rfl⟩) zs0 hK trivial rfl hl.1 rfl (Nat.le_of_ble_eq_true rfl) dX8_isScene_6 ⟨Nat.le_of_ble_eq_true rfl, Nat.le_of_ble_eq_true rfl⟩ (fun r_6 hr_6 => ?_)
  rcases hr_6 with ⟨hb_6, rfl⟩ | ⟨hb_6, rfl⟩
  · exact W.zret (ty := .boolean) (v := zI (1)) hx hb hr (by first | rfl | decide) (fun tz ht hW => ⟨_, rfl, bz_t (by omega), ht⟩) (fun _ h => by cases h) dX8_isScene_9
  · exact W.zret (ty := .boolean) (v := zI (0)) hx hb hr (by first | rfl | decide) (fun tz ht hW => ⟨_, rfl, bz_f (by omega), ht⟩) (fun _ h => by cases h) dX8_isScene_9
set_option maxHeartbeats 4000000 in
set_option maxRecDepth 100000 in
theorem ct_X8_isMeasure (l : Launch) (D : va_G) (cI cT : ClassId) (a : Int) (r_a : -2147483648 ≤ a ∧ a ≤ 2147483647) : zMr l yX8_isMeasure wsX8_isMeasure ({ frames := 1, cells := 0, slots := 0, locals := 25 }) D cI cT [.int (zI (a))] (fun _ _ => True) (fun r => bz (40 ≤ a ∧ a ≤ 200) r) := by
  refine Met.ofW (cc := cX8_isMeasure) (maxL := 1) (ret := (some .boolean)) (by decide) rfl ?_
  intro p_ e_ s m_ args below meth c_ s₁ B hml hv
  obtain ⟨rfl, hK, hF⟩ := hv
  have hx := B.exec
  have hb := B.bytes
  have hr := B.returns
  have hts := atoms_spec (ws := wsX8_isMeasure) B.pre
  have hown : s.vm.findClass RX8 = some m_.cls := findClass_of_methodNamed B.named
  have hlocks := B.notSynchronized
  have S : CallFix p_ m_ c_ cX8_isMeasure 1 s _ wsX8_isMeasure RX8 := ⟨hx, hb, hml, hown, hts⟩
  have hl := lv_entry ([.int (zI (a))]) (n := 1) (Nat.le_of_ble_eq_true rfl)
  rw [lg_entry_eq]
  generalize (lg_sl ([.int (zI (a))]) ++ List.replicate (1 - (lg_sl ([.int (zI (a))])).length) Slot.unset).toArray = ls at hl ⊢
  have hl : lv_has ls 1 [(0, .int (zI (a)))] := hl
  refine lv_iload_n (pc := 0) hx hb dX8_isMeasure_0 rfl (lv_at hl 0 rfl) ?_
  refine zr_i2l (pc := 1) hx hb dX8_isMeasure_1 (by omega) ?_
  refine zr_ldc2 (pc := 2) (w := 40) hx hb hown (hts _ (List.mem_of_getElem? (i := 1) rfl)) dX8_isMeasure_2 (by decide +kernel) ?_
  refine zr_ldc2 (pc := 5) (w := 200) hx hb hown (hts _ (List.mem_of_getElem? (i := 2) rfl)) dX8_isMeasure_5 (by decide +kernel) ?_
  refine zr_si (pc := 8) (As := [.long (zL (a)), .long (zL (40)), .long (zL (200))]) (rest := []) S (ct_X8_in l D cI cT a 40 200 (by omega) (by decide) (by decide)) (va_cwS 3 hts gX8_isMeasure_X8_in rfl rfl rfl (by decide +kernel) ⟨Nat.le_of_ble_eq_true rfl, Nat.le_of_ble_eq_true rfl⟩) zs0 hK trivial rfl hl.1 rfl (Nat.le_of_ble_eq_true rfl) dX8_isMeasure_8 ⟨Nat.le_of_ble_eq_true rfl, Nat.le_of_ble_eq_true rfl⟩ (fun r_8 hr_8 => ?_)
  rcases hr_8 with ⟨hb_8, rfl⟩ | ⟨hb_8, rfl⟩
  · exact W.zret (ty := .boolean) (v := zI (1)) hx hb hr (by first | rfl | decide) (fun tz ht hW => ⟨_, rfl, bz_t (by omega), ht⟩) (fun _ h => by cases h) dX8_isMeasure_11
  · exact W.zret (ty := .boolean) (v := zI (0)) hx hb hr (by first | rfl | decide) (fun tz ht hW => ⟨_, rfl, bz_f (by omega), ht⟩) (fun _ h => by cases h) dX8_isMeasure_11
set_option maxHeartbeats 4000000 in
set_option maxRecDepth 100000 in
theorem ct_X8_feeOf (l : Launch) (D : va_G) (cI cT : ClassId) (n : Int) (r : Int) (n0 : 0 ≤ n) (n1 : n ≤ 100) (r0 : 0 ≤ r) (r1 : r ≤ 100) : zMr l yX8_feeOf wsX8_feeOf ({ frames := 0, cells := 0, slots := 0, locals := 0 }) D cI cT [.int (zI (n)), .int (zI (r))] (fun _ _ => True) (fun q => q = zI (feeF n r)) := by
  refine Met.ofW (cc := cX8_feeOf) (maxL := 2) (ret := (some .int)) (by decide) rfl ?_
  intro p_ e_ s m_ args below meth c_ s₁ B hml hv
  obtain ⟨rfl, hK, hF⟩ := hv
  have hx := B.exec
  have hb := B.bytes
  have hr := B.returns
  have hts := atoms_spec (ws := wsX8_feeOf) B.pre
  have hown : s.vm.findClass RX8 = some m_.cls := findClass_of_methodNamed B.named
  have hlocks := B.notSynchronized
  have S : CallFix p_ m_ c_ cX8_feeOf 2 s _ wsX8_feeOf RX8 := ⟨hx, hb, hml, hown, hts⟩
  have hl := lv_entry ([.int (zI (n)), .int (zI (r))]) (n := 2) (Nat.le_of_ble_eq_true rfl)
  rw [lg_entry_eq]
  generalize (lg_sl ([.int (zI (n)), .int (zI (r))]) ++ List.replicate (2 - (lg_sl ([.int (zI (n)), .int (zI (r))])).length) Slot.unset).toArray = ls at hl ⊢
  have hl : lv_has ls 2 [(0, .int (zI (n))), (1, .int (zI (r)))] := hl
  refine lv_iload_n (pc := 0) hx hb dX8_feeOf_0 rfl (lv_at hl 1 rfl) ?_
  refine lv_iload_n (pc := 1) hx hb dX8_feeOf_1 rfl (lv_at hl 0 rfl) ?_
  refine lv_iload_n (pc := 2) hx hb dX8_feeOf_2 rfl (lv_at hl 0 rfl) ?_
  refine lv_bipush (pc := 3) (v := zI 7) hx hb dX8_feeOf_3 zc_bipush_7 ?_
  refine zr_idiv (pc := 5) (d := n / 7) hx hb dX8_feeOf_5 (by have h := zi_tdiv (a := n) (b := 7) (by omega) (by decide); rw [Int.tdiv_eq_ediv_of_nonneg n0] at h; exact h) ?_
  refine zr_isub (pc := 6) (d := n - (n / 7)) hx hb dX8_feeOf_6 rfl ?_
  refine zr_imul (pc := 7) (d := r * (n - (n / 7))) hx hb dX8_feeOf_7 rfl ?_
  exact W.iret (v := zI (r * (n - (n / 7)))) hx hb hr (fun tz ht hW => ⟨_, rfl, congrArg zI (rfl), ht⟩) (fun _ h => by cases h) dX8_feeOf_8
set_option maxHeartbeats 4000000 in
set_option maxRecDepth 100000 in
theorem ct_X8_canWash (l : Launch) (D : va_G) (cI cT : ClassId) (p : Int) (c : Int) (p0 : 0 ≤ p) (p1 : p ≤ 3) (c0 : 0 ≤ c) (c1 : c ≤ 3) : zMr l yX8_canWash wsX8_canWash ({ frames := 0, cells := 0, slots := 0, locals := 0 }) D cI cT [.int (zI (p)), .int (zI (c))] (fun _ _ => True) (fun r => bz (cwP c p) r) := by
  refine Met.ofW (cc := cX8_canWash) (maxL := 2) (ret := (some .boolean)) (by decide) rfl ?_
  intro p_ e_ s m_ args below meth c_ s₁ B hml hv
  obtain ⟨rfl, hK, hF⟩ := hv
  have hx := B.exec
  have hb := B.bytes
  have hr := B.returns
  have hts := atoms_spec (ws := wsX8_canWash) B.pre
  have hown : s.vm.findClass RX8 = some m_.cls := findClass_of_methodNamed B.named
  have hlocks := B.notSynchronized
  have S : CallFix p_ m_ c_ cX8_canWash 2 s _ wsX8_canWash RX8 := ⟨hx, hb, hml, hown, hts⟩
  have hl := lv_entry ([.int (zI (p)), .int (zI (c))]) (n := 2) (Nat.le_of_ble_eq_true rfl)
  rw [lg_entry_eq]
  generalize (lg_sl ([.int (zI (p)), .int (zI (c))]) ++ List.replicate (2 - (lg_sl ([.int (zI (p)), .int (zI (c))])).length) Slot.unset).toArray = ls at hl ⊢
  have hl : lv_has ls 2 [(0, .int (zI (p))), (1, .int (zI (c)))] := hl
  refine lv_iload_n (pc := 0) hx hb dX8_canWash_0 rfl (lv_at hl 1 rfl) ?_
  refine zr_if_ne (pc := 1) (tgt := 17) hx hb dX8_canWash_1 (by decide) (by omega) (fun c_1 => ?_) (fun c_1 => ?_)
  · refine lv_iload_n (pc := 17) hx hb dX8_canWash_17 rfl (lv_at hl 0 rfl) ?_
    refine lv_iload_n (pc := 18) hx hb dX8_canWash_18 rfl (lv_at hl 1 rfl) ?_
    refine zr_icmp_lt (pc := 19) (tgt := 26) hx hb dX8_canWash_19 (by decide) (by omega) (by omega) (fun c_19 => ?_) (fun c_19 => ?_)
    · refine lv_iconst (pc := 26) (v := zI 0) hx hb dX8_canWash_26 rfl ?_
      exact W.zret (ty := .boolean) (v := zI (0)) hx hb hr (by first | rfl | decide) (fun tz ht hW => ⟨_, rfl, bz_f (by unfold cwP; omega), ht⟩) (fun _ h => by cases h) dX8_canWash_27
    · refine lv_iconst (pc := 22) (v := zI 1) hx hb dX8_canWash_22 rfl ?_
      refine lv_goto (pc := 23) (tgt := 27) hx hb dX8_canWash_23 (by decide) ?_
      exact W.zret (ty := .boolean) (v := zI (1)) hx hb hr (by first | rfl | decide) (fun tz ht hW => ⟨_, rfl, bz_t (by unfold cwP; omega), ht⟩) (fun _ h => by cases h) dX8_canWash_27
  · refine lv_iload_n (pc := 4) hx hb dX8_canWash_4 rfl (lv_at hl 0 rfl) ?_
    refine lv_iconst (pc := 5) (v := zI 3) hx hb dX8_canWash_5 rfl ?_
    refine zr_icmp_ge (pc := 6) (tgt := 13) hx hb dX8_canWash_6 (by decide) (by omega) (by decide) (fun c_6 => ?_) (fun c_6 => ?_)
    · refine lv_iconst (pc := 13) (v := zI 0) hx hb dX8_canWash_13 rfl ?_
      refine lv_goto (pc := 14) (tgt := 27) hx hb dX8_canWash_14 (by decide) ?_
      exact W.zret (ty := .boolean) (v := zI (0)) hx hb hr (by first | rfl | decide) (fun tz ht hW => ⟨_, rfl, bz_f (by unfold cwP; omega), ht⟩) (fun _ h => by cases h) dX8_canWash_27
    · refine lv_iconst (pc := 9) (v := zI 1) hx hb dX8_canWash_9 rfl ?_
      refine lv_goto (pc := 10) (tgt := 27) hx hb dX8_canWash_10 (by decide) ?_
      exact W.zret (ty := .boolean) (v := zI (1)) hx hb hr (by first | rfl | decide) (fun tz ht hW => ⟨_, rfl, bz_t (by unfold cwP; omega), ht⟩) (fun _ h => by cases h) dX8_canWash_27
set_option maxHeartbeats 4000000 in
set_option maxRecDepth 100000 in
theorem ct_X8_has (l : Launch) (D : va_G) (cI cT : ClassId) (n : Int) (k : Int) (n0 : 0 ≤ n) (n1 : n ≤ 65535) (k0 : 0 ≤ k) (k1 : k ≤ 30) : zMr l yX8_has wsX8_has ({ frames := 0, cells := 0, slots := 0, locals := 0 }) D cI cT [.int (zI (n)), .int (zI (k))] (fun _ _ => True) (fun r => bz (bit n k) r) := by
  refine Met.ofW (cc := cX8_has) (maxL := 2) (ret := (some .boolean)) (by decide) rfl ?_
  intro p_ e_ s m_ args below meth c_ s₁ B hml hv
  obtain ⟨rfl, hK, hF⟩ := hv
  have hx := B.exec
  have hb := B.bytes
  have hr := B.returns
  have hts := atoms_spec (ws := wsX8_has) B.pre
  have hown : s.vm.findClass RX8 = some m_.cls := findClass_of_methodNamed B.named
  have hlocks := B.notSynchronized
  have S : CallFix p_ m_ c_ cX8_has 2 s _ wsX8_has RX8 := ⟨hx, hb, hml, hown, hts⟩
  have hm := Int.emod_two_eq (n / pw k)
  have hl := lv_entry ([.int (zI (n)), .int (zI (k))]) (n := 2) (Nat.le_of_ble_eq_true rfl)
  rw [lg_entry_eq]
  generalize (lg_sl ([.int (zI (n)), .int (zI (k))]) ++ List.replicate (2 - (lg_sl ([.int (zI (n)), .int (zI (k))])).length) Slot.unset).toArray = ls at hl ⊢
  have hl : lv_has ls 2 [(0, .int (zI (n))), (1, .int (zI (k)))] := hl
  refine lv_iload_n (pc := 0) hx hb dX8_has_0 rfl (lv_at hl 0 rfl) ?_
  refine lv_iload_n (pc := 1) hx hb dX8_has_1 rfl (lv_at hl 1 rfl) ?_
  refine zr_ishr (pc := 2) (d := n / pw k) hx hb dX8_has_2 (zi_shr n0 (by omega) k0 (by omega)) ?_
  refine lv_iconst (pc := 3) (v := zI 1) hx hb dX8_has_3 rfl ?_
  refine zr_iand (pc := 4) (d := n / pw k % 2) hx hb dX8_has_4 (zi_and1 (Int.ediv_nonneg n0 (Int.le_of_lt (pw_pos k))) (by have := Int.ediv_le_self (pw k) n0; omega)) ?_
  refine lv_iconst (pc := 5) (v := zI 1) hx hb dX8_has_5 rfl ?_
  refine zr_icmp_ne (pc := 6) (tgt := 13) hx hb dX8_has_6 (by decide) (by omega) (by decide) (fun c_6 => ?_) (fun c_6 => ?_)
  · refine lv_iconst (pc := 13) (v := zI 0) hx hb dX8_has_13 rfl ?_
    exact W.zret (ty := .boolean) (v := zI (0)) hx hb hr (by first | rfl | decide) (fun tz ht hW => ⟨_, rfl, bz_f (fun q => by unfold bit at q; omega), ht⟩) (fun _ h => by cases h) dX8_has_14
  · refine lv_iconst (pc := 9) (v := zI 1) hx hb dX8_has_9 rfl ?_
    refine lv_goto (pc := 10) (tgt := 14) hx hb dX8_has_10 (by decide) ?_
    exact W.zret (ty := .boolean) (v := zI (1)) hx hb hr (by first | rfl | decide) (fun tz ht hW => ⟨_, rfl, bz_t (by unfold bit; omega), ht⟩) (fun _ h => by cases h) dX8_has_14
set_option maxHeartbeats 4000000 in
set_option maxRecDepth 100000 in
theorem ct_X8_washesOut (l : Launch) (D : va_G) (cI cT : ClassId) (p : Int) (p0 : 0 ≤ p) (p1 : p ≤ 3) : zMr l yX8_washesOut wsX8_washesOut ({ frames := 0, cells := 0, slots := 0, locals := 0 }) D cI cT [.int (zI (p))] (fun _ _ => True) (fun r => r = zI (tbD p)) := by
  refine Met.ofW (cc := cX8_washesOut) (maxL := 1) (ret := (some .int)) (by decide) rfl ?_
  intro p_ e_ s m_ args below meth c_ s₁ B hml hv
  obtain ⟨rfl, hK, hF⟩ := hv
  have hx := B.exec
  have hb := B.bytes
  have hr := B.returns
  have hts := atoms_spec (ws := wsX8_washesOut) B.pre
  have hown : s.vm.findClass RX8 = some m_.cls := findClass_of_methodNamed B.named
  have hlocks := B.notSynchronized
  have S : CallFix p_ m_ c_ cX8_washesOut 1 s _ wsX8_washesOut RX8 := ⟨hx, hb, hml, hown, hts⟩
  have hl := lv_entry ([.int (zI (p))]) (n := 1) (Nat.le_of_ble_eq_true rfl)
  rw [lg_entry_eq]
  generalize (lg_sl ([.int (zI (p))]) ++ List.replicate (1 - (lg_sl ([.int (zI (p))])).length) Slot.unset).toArray = ls at hl ⊢
  have hl : lv_has ls 1 [(0, .int (zI (p)))] := hl
  refine lv_iload_n (pc := 0) hx hb dX8_washesOut_0 rfl (lv_at hl 0 rfl) ?_
  refine zr_if_ne (pc := 1) (tgt := 8) hx hb dX8_washesOut_1 (by decide) (by omega) (fun c_1 => ?_) (fun c_1 => ?_)
  · refine lv_iload_n (pc := 8) hx hb dX8_washesOut_8 rfl (lv_at hl 0 rfl) ?_
    refine lv_iconst (pc := 9) (v := zI 1) hx hb dX8_washesOut_9 rfl ?_
    refine zr_icmp_ne (pc := 10) (tgt := 17) hx hb dX8_washesOut_10 (by decide) (by omega) (by decide) (fun c_10 => ?_) (fun c_10 => ?_)
    · refine lv_iload_n (pc := 17) hx hb dX8_washesOut_17 rfl (lv_at hl 0 rfl) ?_
      refine lv_iconst (pc := 18) (v := zI 2) hx hb dX8_washesOut_18 rfl ?_
      refine zr_icmp_ne (pc := 19) (tgt := 26) hx hb dX8_washesOut_19 (by decide) (by omega) (by decide) (fun c_19 => ?_) (fun c_19 => ?_)
      · refine lv_iconst (pc := 26) (v := zI 4) hx hb dX8_washesOut_26 rfl ?_
        exact W.iret (v := zI (4)) hx hb hr (fun tz ht hW => ⟨_, rfl, congrArg zI (by unfold tbD; omega), ht⟩) (fun _ h => by cases h) dX8_washesOut_27
      · refine lv_iconst (pc := 22) (v := zI 2) hx hb dX8_washesOut_22 rfl ?_
        refine lv_goto (pc := 23) (tgt := 27) hx hb dX8_washesOut_23 (by decide) ?_
        exact W.iret (v := zI (2)) hx hb hr (fun tz ht hW => ⟨_, rfl, congrArg zI (by unfold tbD; omega), ht⟩) (fun _ h => by cases h) dX8_washesOut_27
    · refine lv_iconst (pc := 13) (v := zI 3) hx hb dX8_washesOut_13 rfl ?_
      refine lv_goto (pc := 14) (tgt := 27) hx hb dX8_washesOut_14 (by decide) ?_
      exact W.iret (v := zI (3)) hx hb hr (fun tz ht hW => ⟨_, rfl, congrArg zI (by unfold tbD; omega), ht⟩) (fun _ h => by cases h) dX8_washesOut_27
  · refine lv_iconst (pc := 4) (v := zI 5) hx hb dX8_washesOut_4 rfl ?_
    refine lv_goto (pc := 5) (tgt := 27) hx hb dX8_washesOut_5 (by decide) ?_
    exact W.iret (v := zI (5)) hx hb hr (fun tz ht hW => ⟨_, rfl, congrArg zI (by unfold tbD; omega), ht⟩) (fun _ h => by cases h) dX8_washesOut_27
set_option maxHeartbeats 4000000 in
set_option maxRecDepth 100000 in
theorem ct_X8_costOf (l : Launch) (D : va_G) (cI cT : ClassId) (p : Int) (p0 : 0 ≤ p) (p1 : p ≤ 3) : zMr l yX8_costOf wsX8_costOf ({ frames := 0, cells := 0, slots := 0, locals := 0 }) D cI cT [.int (zI (p))] (fun _ _ => True) (fun r => r = zI (tbC p)) := by
  refine Met.ofW (cc := cX8_costOf) (maxL := 1) (ret := (some .int)) (by decide) rfl ?_
  intro p_ e_ s m_ args below meth c_ s₁ B hml hv
  obtain ⟨rfl, hK, hF⟩ := hv
  have hx := B.exec
  have hb := B.bytes
  have hr := B.returns
  have hts := atoms_spec (ws := wsX8_costOf) B.pre
  have hown : s.vm.findClass RX8 = some m_.cls := findClass_of_methodNamed B.named
  have hlocks := B.notSynchronized
  have S : CallFix p_ m_ c_ cX8_costOf 1 s _ wsX8_costOf RX8 := ⟨hx, hb, hml, hown, hts⟩
  have hl := lv_entry ([.int (zI (p))]) (n := 1) (Nat.le_of_ble_eq_true rfl)
  rw [lg_entry_eq]
  generalize (lg_sl ([.int (zI (p))]) ++ List.replicate (1 - (lg_sl ([.int (zI (p))])).length) Slot.unset).toArray = ls at hl ⊢
  have hl : lv_has ls 1 [(0, .int (zI (p)))] := hl
  refine lv_iload_n (pc := 0) hx hb dX8_costOf_0 rfl (lv_at hl 0 rfl) ?_
  refine zr_if_ne (pc := 1) (tgt := 9) hx hb dX8_costOf_1 (by decide) (by omega) (fun c_1 => ?_) (fun c_1 => ?_)
  · refine lv_iload_n (pc := 9) hx hb dX8_costOf_9 rfl (lv_at hl 0 rfl) ?_
    refine lv_iconst (pc := 10) (v := zI 1) hx hb dX8_costOf_10 rfl ?_
    refine zr_icmp_ne (pc := 11) (tgt := 19) hx hb dX8_costOf_11 (by decide) (by omega) (by decide) (fun c_11 => ?_) (fun c_11 => ?_)
    · refine lv_iload_n (pc := 19) hx hb dX8_costOf_19 rfl (lv_at hl 0 rfl) ?_
      refine lv_iconst (pc := 20) (v := zI 2) hx hb dX8_costOf_20 rfl ?_
      refine zr_icmp_ne (pc := 21) (tgt := 29) hx hb dX8_costOf_21 (by decide) (by omega) (by decide) (fun c_21 => ?_) (fun c_21 => ?_)
      · refine lv_bipush (pc := 29) (v := zI 15) hx hb dX8_costOf_29 zc_bipush_15 ?_
        exact W.iret (v := zI (15)) hx hb hr (fun tz ht hW => ⟨_, rfl, congrArg zI (by unfold tbC; omega), ht⟩) (fun _ h => by cases h) dX8_costOf_31
      · refine lv_bipush (pc := 24) (v := zI 10) hx hb dX8_costOf_24 zc_bipush_10 ?_
        refine lv_goto (pc := 26) (tgt := 31) hx hb dX8_costOf_26 (by decide) ?_
        exact W.iret (v := zI (10)) hx hb hr (fun tz ht hW => ⟨_, rfl, congrArg zI (by unfold tbC; omega), ht⟩) (fun _ h => by cases h) dX8_costOf_31
    · refine lv_bipush (pc := 14) (v := zI 6) hx hb dX8_costOf_14 zc_bipush_6 ?_
      refine lv_goto (pc := 16) (tgt := 31) hx hb dX8_costOf_16 (by decide) ?_
      exact W.iret (v := zI (6)) hx hb hr (fun tz ht hW => ⟨_, rfl, congrArg zI (by unfold tbC; omega), ht⟩) (fun _ h => by cases h) dX8_costOf_31
  · refine lv_bipush (pc := 4) (v := zI 8) hx hb dX8_costOf_4 zc_bipush_8 ?_
    refine lv_goto (pc := 6) (tgt := 31) hx hb dX8_costOf_6 (by decide) ?_
    exact W.iret (v := zI (8)) hx hb hr (fun tz ht hW => ⟨_, rfl, congrArg zI (by unfold tbC; omega), ht⟩) (fun _ h => by cases h) dX8_costOf_31
set_option maxHeartbeats 4000000 in
set_option maxRecDepth 100000 in
theorem ct_X8_isCostume (l : Launch) (D : va_G) (cI cT : ClassId) (am : Nat → Nat) (μ : Nat → Int → Int) (g : Int → Int) (hg : μ 1 = g) (hI : Inv g) (a : Int) (r_a : -2147483648 ≤ a ∧ a ≤ 2147483647) : zMr l yX8_isCostume wsX8_isCostume ({ frames := 1, cells := 0, slots := 0, locals := 25 }) D cI cT [.ref (am 0), .int (zI (a))] (fun _ H => zW D am 5 (mC cI am μ) H) (fun r => bz (0 ≤ a ∧ a < g 0) r) := by
  refine Met.ofW (cc := cX8_isCostume) (maxL := 2) (ret := (some .boolean)) (by decide) rfl ?_
  intro p_ e_ s m_ args below meth c_ s₁ B hml hv
  obtain ⟨rfl, hK, hF⟩ := hv
  have hx := B.exec
  have hb := B.bytes
  have hr := B.returns
  have hts := atoms_spec (ws := wsX8_isCostume) B.pre
  have hown : s.vm.findClass RX8 = some m_.cls := findClass_of_methodNamed B.named
  have hlocks := B.notSynchronized
  have S : CallFix p_ m_ c_ cX8_isCostume 2 s _ wsX8_isCostume RX8 := ⟨hx, hb, hml, hown, hts⟩
  have i_X8 : ∀ w ∈ u_ws RX8 TX8 12, w ∈ wsX8_isCostume := fun _ h => List.mem_cons_of_mem _ (List.mem_append_right _ h)
  have hP := hF
  have hnC := iv_nC hI
  have hl := lv_entry ([.ref (am 0), .int (zI (a))]) (n := 2) (Nat.le_of_ble_eq_true rfl)
  rw [lg_entry_eq]
  generalize (lg_sl ([.ref (am 0), .int (zI (a))]) ++ List.replicate (2 - (lg_sl ([.ref (am 0), .int (zI (a))])).length) Slot.unset).toArray = ls at hl ⊢
  have hl : lv_has ls 2 [(0, .ref (am 0)), (1, .int (zI (a)))] := hl
  refine lv_iload_n (pc := 0) hx hb dX8_isCostume_0 rfl (lv_at hl 1 rfl) ?_
  refine zr_i2l (pc := 1) hx hb dX8_isCostume_1 (by omega) ?_
  refine lv_lconst (pc := 2) (v := zL 0) hx hb dX8_isCostume_2 rfl ?_
  refine lv_aload_n (pc := 3) hx hb dX8_isCostume_3 rfl (lv_at hl 0 rfl) ?_
  refine zr_get (pc := 4) S hK (hP 0 (by decide)) rfl i_X8 1 (by decide) (List.mem_of_getElem? (i := 1) rfl) rfl dX8_isCostume_4 ?_
  refine lv_iconst (pc := 7) (v := zI 0) hx hb dX8_isCostume_7 rfl ?_
  refine zr_ald (pc := 8) (n := 572) hx hb (zAr_of (zK_int hK) (hP 1 (by decide))) (by decide) (by decide) (by decide) dX8_isCostume_8 ?_
  refine zr_top (b := g 0) (congrFun hg _) ?_
  refine lv_iconst (pc := 9) (v := zI 1) hx hb dX8_isCostume_9 rfl ?_
  refine zr_isub (pc := 10) (d := (g 0) - 1) hx hb dX8_isCostume_10 rfl ?_
  refine zr_i2l (pc := 11) hx hb dX8_isCostume_11 (by omega) ?_
  refine zr_si (pc := 12) (As := [.long (zL (a)), .long (zL (0)), .long (zL ((g 0) - 1))]) (rest := []) S (ct_X8_in l D cI cT a 0 ((g 0) - 1) (by omega) (by decide) (by omega)) (va_cwS 3 hts gX8_isCostume_X8_in rfl rfl rfl (by decide +kernel) ⟨Nat.le_of_ble_eq_true rfl, Nat.le_of_ble_eq_true rfl⟩) zs0 hK trivial rfl hl.1 rfl (Nat.le_of_ble_eq_true rfl) dX8_isCostume_12 ⟨Nat.le_of_ble_eq_true rfl, Nat.le_of_ble_eq_true rfl⟩ (fun r_12 hr_12 => ?_)
  rcases hr_12 with ⟨hb_12, rfl⟩ | ⟨hb_12, rfl⟩
  · exact W.zret (ty := .boolean) (v := zI (1)) hx hb hr (by first | rfl | decide) (fun tz ht hW => ⟨_, rfl, bz_t (by omega), ht⟩) (fun _ h => by cases h) dX8_isCostume_15
  · exact W.zret (ty := .boolean) (v := zI (0)) hx hb hr (by first | rfl | decide) (fun tz ht hW => ⟨_, rfl, bz_f (by omega), ht⟩) (fun _ h => by cases h) dX8_isCostume_15
set_option maxHeartbeats 4000000 in
set_option maxRecDepth 100000 in
theorem ct_X8_isActor (l : Launch) (D : va_G) (cI cT : ClassId) (am : Nat → Nat) (μ : Nat → Int → Int) (g : Int → Int) (hg : μ 1 = g) (hI : Inv g) (a : Int) (r_a : -2147483648 ≤ a ∧ a ≤ 2147483647) : zMr l yX8_isActor wsX8_isActor ({ frames := 1, cells := 0, slots := 0, locals := 25 }) D cI cT [.ref (am 0), .int (zI (a))] (fun _ H => zW D am 5 (mC cI am μ) H) (fun r => bz (0 ≤ a ∧ a < g 1) r) := by
  refine Met.ofW (cc := cX8_isActor) (maxL := 2) (ret := (some .boolean)) (by decide) rfl ?_
  intro p_ e_ s m_ args below meth c_ s₁ B hml hv
  obtain ⟨rfl, hK, hF⟩ := hv
  have hx := B.exec
  have hb := B.bytes
  have hr := B.returns
  have hts := atoms_spec (ws := wsX8_isActor) B.pre
  have hown : s.vm.findClass RX8 = some m_.cls := findClass_of_methodNamed B.named
  have hlocks := B.notSynchronized
  have S : CallFix p_ m_ c_ cX8_isActor 2 s _ wsX8_isActor RX8 := ⟨hx, hb, hml, hown, hts⟩
  have i_X8 : ∀ w ∈ u_ws RX8 TX8 12, w ∈ wsX8_isActor := fun _ h => List.mem_cons_of_mem _ (List.mem_append_right _ h)
  have hP := hF
  have hnA := iv_nA hI
  have hl := lv_entry ([.ref (am 0), .int (zI (a))]) (n := 2) (Nat.le_of_ble_eq_true rfl)
  rw [lg_entry_eq]
  generalize (lg_sl ([.ref (am 0), .int (zI (a))]) ++ List.replicate (2 - (lg_sl ([.ref (am 0), .int (zI (a))])).length) Slot.unset).toArray = ls at hl ⊢
  have hl : lv_has ls 2 [(0, .ref (am 0)), (1, .int (zI (a)))] := hl
  refine lv_iload_n (pc := 0) hx hb dX8_isActor_0 rfl (lv_at hl 1 rfl) ?_
  refine zr_i2l (pc := 1) hx hb dX8_isActor_1 (by omega) ?_
  refine lv_lconst (pc := 2) (v := zL 0) hx hb dX8_isActor_2 rfl ?_
  refine lv_aload_n (pc := 3) hx hb dX8_isActor_3 rfl (lv_at hl 0 rfl) ?_
  refine zr_get (pc := 4) S hK (hP 0 (by decide)) rfl i_X8 1 (by decide) (List.mem_of_getElem? (i := 1) rfl) rfl dX8_isActor_4 ?_
  refine lv_iconst (pc := 7) (v := zI 1) hx hb dX8_isActor_7 rfl ?_
  refine zr_ald (pc := 8) (n := 572) hx hb (zAr_of (zK_int hK) (hP 1 (by decide))) (by decide) (by decide) (by decide) dX8_isActor_8 ?_
  refine zr_top (b := g 1) (congrFun hg _) ?_
  refine lv_iconst (pc := 9) (v := zI 1) hx hb dX8_isActor_9 rfl ?_
  refine zr_isub (pc := 10) (d := (g 1) - 1) hx hb dX8_isActor_10 rfl ?_
  refine zr_i2l (pc := 11) hx hb dX8_isActor_11 (by omega) ?_
  refine zr_si (pc := 12) (As := [.long (zL (a)), .long (zL (0)), .long (zL ((g 1) - 1))]) (rest := []) S (ct_X8_in l D cI cT a 0 ((g 1) - 1) (by omega) (by decide) (by omega)) (va_cwS 3 hts gX8_isActor_X8_in rfl rfl rfl (by decide +kernel) ⟨Nat.le_of_ble_eq_true rfl, Nat.le_of_ble_eq_true rfl⟩) zs0 hK trivial rfl hl.1 rfl (Nat.le_of_ble_eq_true rfl) dX8_isActor_12 ⟨Nat.le_of_ble_eq_true rfl, Nat.le_of_ble_eq_true rfl⟩ (fun r_12 hr_12 => ?_)
  rcases hr_12 with ⟨hb_12, rfl⟩ | ⟨hb_12, rfl⟩
  · exact W.zret (ty := .boolean) (v := zI (1)) hx hb hr (by first | rfl | decide) (fun tz ht hW => ⟨_, rfl, bz_t (by omega), ht⟩) (fun _ h => by cases h) dX8_isActor_15
  · exact W.zret (ty := .boolean) (v := zI (0)) hx hb hr (by first | rfl | decide) (fun tz ht hW => ⟨_, rfl, bz_f (by omega), ht⟩) (fun _ h => by cases h) dX8_isActor_15
set_option maxHeartbeats 4000000 in
set_option maxRecDepth 100000 in
theorem ct_X8_of (l : Launch) (D : va_G) (cI cT : ClassId) (am : Nat → Nat) (μ : Nat → Int → Int) (g : Int → Int) (hg : μ 1 = g) (hI : Inv g) (c : Int) (p : Int) (c0 : 0 ≤ c) (c1 : c < 16) (p0 : 0 ≤ p) (p1 : p < 20) : zMr l yX8_of wsX8_of ({ frames := 0, cells := 0, slots := 0, locals := 0 }) D cI cT [.ref (am 0), .int (zI (c)), .int (zI (p))] (fun _ H => zW D am 5 (mC cI am μ) H) (fun r => r = zI (gC g c p)) := by
  refine Met.ofW (cc := cX8_of) (maxL := 3) (ret := (some .int)) (by decide) rfl ?_
  intro p_ e_ s m_ args below meth c_ s₁ B hml hv
  obtain ⟨rfl, hK, hF⟩ := hv
  have hx := B.exec
  have hb := B.bytes
  have hr := B.returns
  have hts := atoms_spec (ws := wsX8_of) B.pre
  have hown : s.vm.findClass RX8 = some m_.cls := findClass_of_methodNamed B.named
  have hlocks := B.notSynchronized
  have S : CallFix p_ m_ c_ cX8_of 3 s _ wsX8_of RX8 := ⟨hx, hb, hml, hown, hts⟩
  have i_X8 : ∀ w ∈ u_ws RX8 TX8 12, w ∈ wsX8_of := fun _ h => List.mem_cons_of_mem _ (List.mem_append_right _ h)
  have hP := hF
  have hl := lv_entry ([.ref (am 0), .int (zI (c)), .int (zI (p))]) (n := 3) (Nat.le_of_ble_eq_true rfl)
  rw [lg_entry_eq]
  generalize (lg_sl ([.ref (am 0), .int (zI (c)), .int (zI (p))]) ++ List.replicate (3 - (lg_sl ([.ref (am 0), .int (zI (c)), .int (zI (p))])).length) Slot.unset).toArray = ls at hl ⊢
  have hl : lv_has ls 3 [(0, .ref (am 0)), (1, .int (zI (c))), (2, .int (zI (p)))] := hl
  refine lv_aload_n (pc := 0) hx hb dX8_of_0 rfl (lv_at hl 0 rfl) ?_
  refine zr_get (pc := 1) S hK (hP 0 (by decide)) rfl i_X8 1 (by decide) (List.mem_of_getElem? (i := 1) rfl) rfl dX8_of_1 ?_
  refine lv_bipush (pc := 4) (v := zI 12) hx hb dX8_of_4 zc_bipush_12 ?_
  refine lv_bipush (pc := 6) (v := zI 20) hx hb dX8_of_6 zc_bipush_20 ?_
  refine lv_iload_n (pc := 8) hx hb dX8_of_8 rfl (lv_at hl 1 rfl) ?_
  refine zr_imul (pc := 9) (d := 20 * c) hx hb dX8_of_9 rfl ?_
  refine zr_iadd (pc := 10) (d := 12 + (20 * c)) hx hb dX8_of_10 rfl ?_
  refine lv_iload_n (pc := 11) hx hb dX8_of_11 rfl (lv_at hl 2 rfl) ?_
  refine zr_iadd (pc := 12) (d := (12 + (20 * c)) + p) hx hb dX8_of_12 rfl ?_
  refine zr_ald (pc := 13) (n := 572) hx hb (zAr_of (zK_int hK) (hP 1 (by decide))) (by omega) (by omega) (by decide) dX8_of_13 ?_
  refine zr_top (b := gC g c p) (congrFun hg _) ?_
  exact W.iret (v := zI (gC g c p)) hx hb hr (fun tz ht hW => ⟨_, rfl, congrArg zI (rfl), ht⟩) (fun _ h => by cases h) dX8_of_14
set_option maxHeartbeats 4000000 in
set_option maxRecDepth 100000 in
theorem ct_X8_measureOf (l : Launch) (D : va_G) (cI cT : ClassId) (am : Nat → Nat) (μ : Nat → Int → Int) (g : Int → Int) (hg : μ 1 = g) (hI : Inv g) (a : Int) (m : Int) (a0 : 0 ≤ a) (a1 : a < 8) (m0 : 0 ≤ m) (m1 : m < 3) : zMr l yX8_measureOf wsX8_measureOf ({ frames := 0, cells := 0, slots := 0, locals := 0 }) D cI cT [.ref (am 0), .int (zI (a)), .int (zI (m))] (fun _ H => zW D am 5 (mC cI am μ) H) (fun r => r = zI (gA g a m)) := by
  refine Met.ofW (cc := cX8_measureOf) (maxL := 3) (ret := (some .int)) (by decide) rfl ?_
  intro p_ e_ s m_ args below meth c_ s₁ B hml hv
  obtain ⟨rfl, hK, hF⟩ := hv
  have hx := B.exec
  have hb := B.bytes
  have hr := B.returns
  have hts := atoms_spec (ws := wsX8_measureOf) B.pre
  have hown : s.vm.findClass RX8 = some m_.cls := findClass_of_methodNamed B.named
  have hlocks := B.notSynchronized
  have S : CallFix p_ m_ c_ cX8_measureOf 3 s _ wsX8_measureOf RX8 := ⟨hx, hb, hml, hown, hts⟩
  have i_X8 : ∀ w ∈ u_ws RX8 TX8 12, w ∈ wsX8_measureOf := fun _ h => List.mem_cons_of_mem _ (List.mem_append_right _ h)
  have hP := hF
  have hl := lv_entry ([.ref (am 0), .int (zI (a)), .int (zI (m))]) (n := 3) (Nat.le_of_ble_eq_true rfl)
  rw [lg_entry_eq]
  generalize (lg_sl ([.ref (am 0), .int (zI (a)), .int (zI (m))]) ++ List.replicate (3 - (lg_sl ([.ref (am 0), .int (zI (a)), .int (zI (m))])).length) Slot.unset).toArray = ls at hl ⊢
  have hl : lv_has ls 3 [(0, .ref (am 0)), (1, .int (zI (a))), (2, .int (zI (m)))] := hl
  refine lv_aload_n (pc := 0) hx hb dX8_measureOf_0 rfl (lv_at hl 0 rfl) ?_
  refine zr_get (pc := 1) S hK (hP 0 (by decide)) rfl i_X8 1 (by decide) (List.mem_of_getElem? (i := 1) rfl) rfl dX8_measureOf_1 ?_
  refine lv_sipush (pc := 4) (v := zI 332) hx hb dX8_measureOf_4 zc_sipush_332 ?_
  refine lv_iconst (pc := 7) (v := zI 3) hx hb dX8_measureOf_7 rfl ?_
  refine lv_iload_n (pc := 8) hx hb dX8_measureOf_8 rfl (lv_at hl 1 rfl) ?_
  refine zr_imul (pc := 9) (d := 3 * a) hx hb dX8_measureOf_9 rfl ?_
  refine zr_iadd (pc := 10) (d := 332 + (3 * a)) hx hb dX8_measureOf_10 rfl ?_
  refine lv_iload_n (pc := 11) hx hb dX8_measureOf_11 rfl (lv_at hl 2 rfl) ?_
  refine zr_iadd (pc := 12) (d := (332 + (3 * a)) + m) hx hb dX8_measureOf_12 rfl ?_
  refine zr_ald (pc := 13) (n := 572) hx hb (zAr_of (zK_int hK) (hP 1 (by decide))) (by omega) (by omega) (by decide) dX8_measureOf_13 ?_
  refine zr_top (b := gA g a m) (congrFun hg _) ?_
  exact W.iret (v := zI (gA g a m)) hx hb hr (fun tz ht hW => ⟨_, rfl, congrArg zI (rfl), ht⟩) (fun _ h => by cases h) dX8_measureOf_14
set_option maxHeartbeats 4000000 in
set_option maxRecDepth 100000 in
theorem ct_X8_worn (l : Launch) (D : va_G) (cI cT : ClassId) (am : Nat → Nat) (μ : Nat → Int → Int) (g : Int → Int) (hg : μ 1 = g) (hI : Inv g) (sc : Int) (a : Int) (s0 : 0 ≤ sc) (s1 : sc < 12) (a0 : 0 ≤ a) (a1 : a < 8) : zMr l yX8_worn wsX8_worn ({ frames := 0, cells := 0, slots := 0, locals := 0 }) D cI cT [.ref (am 0), .int (zI (sc)), .int (zI (a))] (fun _ H => zW D am 5 (mC cI am μ) H) (fun r => r = zI (gW g sc a)) := by
  refine Met.ofW (cc := cX8_worn) (maxL := 3) (ret := (some .int)) (by decide) rfl ?_
  intro p_ e_ s m_ args below meth c_ s₁ B hml hv
  obtain ⟨rfl, hK, hF⟩ := hv
  have hx := B.exec
  have hb := B.bytes
  have hr := B.returns
  have hts := atoms_spec (ws := wsX8_worn) B.pre
  have hown : s.vm.findClass RX8 = some m_.cls := findClass_of_methodNamed B.named
  have hlocks := B.notSynchronized
  have S : CallFix p_ m_ c_ cX8_worn 3 s _ wsX8_worn RX8 := ⟨hx, hb, hml, hown, hts⟩
  have i_X8 : ∀ w ∈ u_ws RX8 TX8 12, w ∈ wsX8_worn := fun _ h => List.mem_cons_of_mem _ (List.mem_append_right _ h)
  have hP := hF
  have hl := lv_entry ([.ref (am 0), .int (zI (sc)), .int (zI (a))]) (n := 3) (Nat.le_of_ble_eq_true rfl)
  rw [lg_entry_eq]
  generalize (lg_sl ([.ref (am 0), .int (zI (sc)), .int (zI (a))]) ++ List.replicate (3 - (lg_sl ([.ref (am 0), .int (zI (sc)), .int (zI (a))])).length) Slot.unset).toArray = ls at hl ⊢
  have hl : lv_has ls 3 [(0, .ref (am 0)), (1, .int (zI (sc))), (2, .int (zI (a)))] := hl
  refine lv_aload_n (pc := 0) hx hb dX8_worn_0 rfl (lv_at hl 0 rfl) ?_
  refine zr_get (pc := 1) S hK (hP 0 (by decide)) rfl i_X8 1 (by decide) (List.mem_of_getElem? (i := 1) rfl) rfl dX8_worn_1 ?_
  refine lv_sipush (pc := 4) (v := zI 356) hx hb dX8_worn_4 zc_sipush_356 ?_
  refine lv_bipush (pc := 7) (v := zI 8) hx hb dX8_worn_7 zc_bipush_8 ?_
  refine lv_iload_n (pc := 9) hx hb dX8_worn_9 rfl (lv_at hl 1 rfl) ?_
  refine zr_imul (pc := 10) (d := 8 * sc) hx hb dX8_worn_10 rfl ?_
  refine zr_iadd (pc := 11) (d := 356 + (8 * sc)) hx hb dX8_worn_11 rfl ?_
  refine lv_iload_n (pc := 12) hx hb dX8_worn_12 rfl (lv_at hl 2 rfl) ?_
  refine zr_iadd (pc := 13) (d := (356 + (8 * sc)) + a) hx hb dX8_worn_13 rfl ?_
  refine zr_ald (pc := 14) (n := 572) hx hb (zAr_of (zK_int hK) (hP 1 (by decide))) (by omega) (by omega) (by decide) dX8_worn_14 ?_
  refine zr_top (b := gW g sc a) (congrFun hg _) ?_
  exact W.iret (v := zI (gW g sc a)) hx hb hr (fun tz ht hW => ⟨_, rfl, congrArg zI (rfl), ht⟩) (fun _ h => by cases h) dX8_worn_15
set_option maxHeartbeats 4000000 in
set_option maxRecDepth 100000 in
theorem ct_X8_ofHire (l : Launch) (D : va_G) (cI cT : ClassId) (am : Nat → Nat) (μ : Nat → Int → Int) (g : Int → Int) (hg : μ 1 = g) (hI : Inv g) (h : Int) (p : Int) (h0 : 0 ≤ h) (h1 : h < 24) (p0 : 0 ≤ p) (p1 : p < 5) : zMr l yX8_ofHire wsX8_ofHire ({ frames := 0, cells := 0, slots := 0, locals := 0 }) D cI cT [.ref (am 0), .int (zI (h)), .int (zI (p))] (fun _ H => zW D am 5 (mC cI am μ) H) (fun r => r = zI (gH g h p)) := by
  refine Met.ofW (cc := cX8_ofHire) (maxL := 3) (ret := (some .int)) (by decide) rfl ?_
  intro p_ e_ s m_ args below meth c_ s₁ B hml hv
  obtain ⟨rfl, hK, hF⟩ := hv
  have hx := B.exec
  have hb := B.bytes
  have hr := B.returns
  have hts := atoms_spec (ws := wsX8_ofHire) B.pre
  have hown : s.vm.findClass RX8 = some m_.cls := findClass_of_methodNamed B.named
  have hlocks := B.notSynchronized
  have S : CallFix p_ m_ c_ cX8_ofHire 3 s _ wsX8_ofHire RX8 := ⟨hx, hb, hml, hown, hts⟩
  have i_X8 : ∀ w ∈ u_ws RX8 TX8 12, w ∈ wsX8_ofHire := fun _ h => List.mem_cons_of_mem _ (List.mem_append_right _ h)
  have hP := hF
  have hl := lv_entry ([.ref (am 0), .int (zI (h)), .int (zI (p))]) (n := 3) (Nat.le_of_ble_eq_true rfl)
  rw [lg_entry_eq]
  generalize (lg_sl ([.ref (am 0), .int (zI (h)), .int (zI (p))]) ++ List.replicate (3 - (lg_sl ([.ref (am 0), .int (zI (h)), .int (zI (p))])).length) Slot.unset).toArray = ls at hl ⊢
  have hl : lv_has ls 3 [(0, .ref (am 0)), (1, .int (zI (h))), (2, .int (zI (p)))] := hl
  refine lv_aload_n (pc := 0) hx hb dX8_ofHire_0 rfl (lv_at hl 0 rfl) ?_
  refine zr_get (pc := 1) S hK (hP 0 (by decide)) rfl i_X8 1 (by decide) (List.mem_of_getElem? (i := 1) rfl) rfl dX8_ofHire_1 ?_
  refine lv_sipush (pc := 4) (v := zI 452) hx hb dX8_ofHire_4 zc_sipush_452 ?_
  refine lv_iconst (pc := 7) (v := zI 5) hx hb dX8_ofHire_7 rfl ?_
  refine lv_iload_n (pc := 8) hx hb dX8_ofHire_8 rfl (lv_at hl 1 rfl) ?_
  refine zr_imul (pc := 9) (d := 5 * h) hx hb dX8_ofHire_9 rfl ?_
  refine zr_iadd (pc := 10) (d := 452 + (5 * h)) hx hb dX8_ofHire_10 rfl ?_
  refine lv_iload_n (pc := 11) hx hb dX8_ofHire_11 rfl (lv_at hl 2 rfl) ?_
  refine zr_iadd (pc := 12) (d := (452 + (5 * h)) + p) hx hb dX8_ofHire_12 rfl ?_
  refine zr_ald (pc := 13) (n := 572) hx hb (zAr_of (zK_int hK) (hP 1 (by decide))) (by omega) (by omega) (by decide) dX8_ofHire_13 ?_
  refine zr_top (b := gH g h p) (congrFun hg _) ?_
  exact W.iret (v := zI (gH g h p)) hx hb hr (fun tz ht hW => ⟨_, rfl, congrArg zI (rfl), ht⟩) (fun _ h => by cases h) dX8_ofHire_14
set_option maxHeartbeats 4000000 in
set_option maxRecDepth 100000 in
theorem ct_X8_present (l : Launch) (D : va_G) (cI cT : ClassId) (am : Nat → Nat) (μ : Nat → Int → Int) (g : Int → Int) (hg : μ 1 = g) (hI : Inv g) (c : Int) (m : Int) (h0 : 0 ≤ c) (h1 : c < g 0) (m0 : 0 ≤ m) (m1 : m < 3) : zMr l yX8_present wsX8_present ({ frames := 1, cells := 0, slots := 0, locals := 22 }) D cI cT [.ref (am 0), .int (zI (c)), .int (zI (m))] (fun _ H => zW D am 5 (mC cI am μ) H) (fun r => r = zI (pres g c m)) := by
  refine Met.ofW (cc := cX8_present) (maxL := 5) (ret := (some .int)) (by decide) rfl ?_
  intro p_ e_ s m_ args below meth c_ s₁ B hml hv
  obtain ⟨rfl, hK, hF⟩ := hv
  have hx := B.exec
  have hb := B.bytes
  have hr := B.returns
  have hts := atoms_spec (ws := wsX8_present) B.pre
  have hown : s.vm.findClass RX8 = some m_.cls := findClass_of_methodNamed B.named
  have hlocks := B.notSynchronized
  have S : CallFix p_ m_ c_ cX8_present 5 s _ wsX8_present RX8 := ⟨hx, hb, hml, hown, hts⟩
  have hP := hF
  have hnC := iv_nC hI
  have hna := iv_na hI h0 h1
  have hor := iv_or hI h0 h1 m0 m1
  have hl := lv_entry ([.ref (am 0), .int (zI (c)), .int (zI (m))]) (n := 5) (Nat.le_of_ble_eq_true rfl)
  rw [lg_entry_eq]
  generalize (lg_sl ([.ref (am 0), .int (zI (c)), .int (zI (m))]) ++ List.replicate (5 - (lg_sl ([.ref (am 0), .int (zI (c)), .int (zI (m))])).length) Slot.unset).toArray = ls at hl ⊢
  have hl : lv_has ls 5 [(0, .ref (am 0)), (1, .int (zI (c))), (2, .int (zI (m)))] := hl
  refine lv_aload_n (pc := 0) hx hb dX8_present_0 rfl (lv_at hl 0 rfl) ?_
  refine lv_iload_n (pc := 1) hx hb dX8_present_1 rfl (lv_at hl 1 rfl) ?_
  refine lv_iload_n (pc := 2) hx hb dX8_present_2 rfl (lv_at hl 2 rfl) ?_
  refine zr_vi (pc := 3) (As := [.int (zI (c)), .int (zI (m))]) (rest := []) S (ct_X8_of l D cI cT am μ g hg hI c m (by omega) (by omega) (by omega) (by omega)) (cwV 2 hts gX8_present_X8_of rfl rfl rfl (by decide +kernel) ⟨Nat.le_of_ble_eq_true rfl, Nat.le_of_ble_eq_true rfl⟩) zs0 hK hP (zr_recv hK (hP 0 (by decide)) rfl) rfl hl.1 rfl (Nat.le_of_ble_eq_true rfl) dX8_present_3 ⟨Nat.le_of_ble_eq_true rfl, Nat.le_of_ble_eq_true rfl⟩ (fun r_3 hr_3 => ?_)
  subst hr_3
  refine lv_istore_n (pc := 6) (lv' := [(3, .int (zI (gC g c m))), (0, .ref (am 0)), (1, .int (zI (c))), (2, .int (zI (m)))]) hx hb dX8_present_6 rfl hl (by decide) rfl (fun ls hl => ?_)
  refine lv_iconst (pc := 7) (v := zI 0) hx hb dX8_present_7 rfl ?_
  refine lv_istore (pc := 8) (lv' := [(4, .int (zI (0))), (3, .int (zI (gC g c m))), (0, .ref (am 0)), (1, .int (zI (c))), (2, .int (zI (m)))]) hx hb dX8_present_8 hl (by decide) rfl (fun ls hl => ?_)
  refine zr_loop2 (fun (i : Nat) (x : Int) => ((i : Int) ≤ gC g c 7) ∧ (x = gC g c m + sm (fun k => ti (gM g c k = m) * gX g c k) i)) (fun (i : Nat) (x : Int) => (gC g c 7 : Int).toNat - i) (fun (i : Nat) (x : Int) => [(0, .ref (am 0)), (1, .int (zI (c))), (2, .int (zI (m))), (3, .int (zI (x))), (4, .int (zI ((i : Int))))]) ?_ (0) ((gC g c m)) (⟨by omega, by rw [sm_0]; omega⟩) (lv_sub hl [2, 3, 4, 1, 0] rfl)
  intro i x hinv ih_10 ls hl
  obtain ⟨h_i, h_x⟩ := hinv
  refine lv_iload (pc := 10) hx hb dX8_present_10 (lv_at hl 4 rfl) ?_
  refine lv_aload_n (pc := 12) hx hb dX8_present_12 rfl (lv_at hl 0 rfl) ?_
  refine lv_iload_n (pc := 13) hx hb dX8_present_13 rfl (lv_at hl 1 rfl) ?_
  refine lv_bipush (pc := 14) (v := zI 7) hx hb dX8_present_14 zc_bipush_7 ?_
  refine zr_vi (pc := 16) (As := [.int (zI (c)), .int (zI (7))]) (rest := [.int (zI ((i : Int)))]) S (ct_X8_of l D cI cT am μ g hg hI c 7 (by omega) (by omega) (by omega) (by omega)) (cwV 2 hts gX8_present_X8_of rfl rfl rfl (by decide +kernel) ⟨Nat.le_of_ble_eq_true rfl, Nat.le_of_ble_eq_true rfl⟩) zs0 hK hP (zr_recv hK (hP 0 (by decide)) rfl) rfl hl.1 rfl (Nat.le_of_ble_eq_true rfl) dX8_present_16 ⟨Nat.le_of_ble_eq_true rfl, Nat.le_of_ble_eq_true rfl⟩ (fun r_16 hr_16 => ?_)
  subst hr_16
  refine zr_icmp_ge (pc := 19) (tgt := 65) hx hb dX8_present_19 (by decide) (by omega) (by omega) (fun c_19 => ?_) (fun c_19 => ?_)
  · refine lv_iload_n (pc := 65) hx hb dX8_present_65 rfl (lv_at hl 3 rfl) ?_
    exact W.iret (v := zI (x)) hx hb hr (fun tz ht hW => ⟨_, rfl, congrArg zI (by rw [h_x, show i = (gC g c 7).toNat by omega, pres]), ht⟩) (fun _ h => by cases h) dX8_present_66
  · have ham := iv_am hI h0 h1 (show 0 ≤ (i : Int) by omega) (by omega)
    refine lv_iload_n (pc := 22) hx hb dX8_present_22 rfl (lv_at hl 3 rfl) ?_
    refine lv_aload_n (pc := 23) hx hb dX8_present_23 rfl (lv_at hl 0 rfl) ?_
    refine lv_iload_n (pc := 24) hx hb dX8_present_24 rfl (lv_at hl 1 rfl) ?_
    refine lv_bipush (pc := 25) (v := zI 8) hx hb dX8_present_25 zc_bipush_8 ?_
    refine lv_iconst (pc := 27) (v := zI 2) hx hb dX8_present_27 rfl ?_
    refine lv_iload (pc := 28) hx hb dX8_present_28 (lv_at hl 4 rfl) ?_
    refine zr_imul (pc := 30) (d := 2 * ((i : Int))) hx hb dX8_present_30 rfl ?_
    refine zr_iadd (pc := 31) (d := 8 + (2 * ((i : Int)))) hx hb dX8_present_31 rfl ?_
    refine zr_vi (pc := 32) (As := [.int (zI (c)), .int (zI (8 + (2 * ((i : Int)))))]) (rest := [.int (zI (x))]) S (ct_X8_of l D cI cT am μ g hg hI c (8 + (2 * ((i : Int)))) (by omega) (by omega) (by omega) (by omega)) (cwV 2 hts gX8_present_X8_of rfl rfl rfl (by decide +kernel) ⟨Nat.le_of_ble_eq_true rfl, Nat.le_of_ble_eq_true rfl⟩) zs0 hK hP (zr_recv hK (hP 0 (by decide)) rfl) rfl hl.1 rfl (Nat.le_of_ble_eq_true rfl) dX8_present_32 ⟨Nat.le_of_ble_eq_true rfl, Nat.le_of_ble_eq_true rfl⟩ (fun r_32 hr_32 => ?_)
    subst hr_32
    refine zr_top (b := gM g c i) rfl ?_
    refine lv_iload_n (pc := 35) hx hb dX8_present_35 rfl (lv_at hl 2 rfl) ?_
    refine zr_icmp_ne (pc := 36) (tgt := 56) hx hb dX8_present_36 (by decide) (by omega) (by omega) (fun c_36 => ?_) (fun c_36 => ?_)
    · refine lv_iconst (pc := 56) (v := zI 0) hx hb dX8_present_56 rfl ?_
      refine zr_iadd (pc := 57) (d := x + 0) hx hb dX8_present_57 rfl ?_
      refine lv_istore_n (pc := 58) (lv' := [(3, .int (zI (x + 0))), (0, .ref (am 0)), (1, .int (zI (c))), (2, .int (zI (m))), (4, .int (zI ((i : Int))))]) hx hb dX8_present_58 rfl hl (by decide) rfl (fun ls hl => ?_)
      refine zr_iinc (pc := 59) (d := ((i : Int)) + 1) (lv' := [(4, .int (zI (((i : Int)) + 1))), (3, .int (zI (x + 0))), (0, .ref (am 0)), (1, .int (zI (c))), (2, .int (zI (m)))]) hx hb dX8_present_59 hl (k := 4) rfl rfl (by decide) rfl (fun ls hl => ?_)
      refine lv_goto (pc := 62) (tgt := 10) hx hb dX8_present_62 (by decide) ?_
      exact ih_10 (i + 1) ((x + 0)) (⟨by omega, by rw [sm_s]; first | (rw [ti_t c_36]; show _ = _ + (_ + 1 * gC g c (8 + 2 * (i : Int) + 1)); omega) | (rw [ti_f c_36]; omega)⟩) (by omega) ls (lv_sub hl [2, 3, 4, 1, 0] rfl)
    · refine lv_aload_n (pc := 39) hx hb dX8_present_39 rfl (lv_at hl 0 rfl) ?_
      refine lv_iload_n (pc := 40) hx hb dX8_present_40 rfl (lv_at hl 1 rfl) ?_
      refine lv_bipush (pc := 41) (v := zI 8) hx hb dX8_present_41 zc_bipush_8 ?_
      refine lv_iconst (pc := 43) (v := zI 2) hx hb dX8_present_43 rfl ?_
      refine lv_iload (pc := 44) hx hb dX8_present_44 (lv_at hl 4 rfl) ?_
      refine zr_imul (pc := 46) (d := 2 * ((i : Int))) hx hb dX8_present_46 rfl ?_
      refine zr_iadd (pc := 47) (d := 8 + (2 * ((i : Int)))) hx hb dX8_present_47 rfl ?_
      refine lv_iconst (pc := 48) (v := zI 1) hx hb dX8_present_48 rfl ?_
      refine zr_iadd (pc := 49) (d := (8 + (2 * ((i : Int)))) + 1) hx hb dX8_present_49 rfl ?_
      refine zr_vi (pc := 50) (As := [.int (zI (c)), .int (zI ((8 + (2 * ((i : Int)))) + 1))]) (rest := [.int (zI (x))]) S (ct_X8_of l D cI cT am μ g hg hI c ((8 + (2 * ((i : Int)))) + 1) (by omega) (by omega) (by omega) (by omega)) (cwV 2 hts gX8_present_X8_of rfl rfl rfl (by decide +kernel) ⟨Nat.le_of_ble_eq_true rfl, Nat.le_of_ble_eq_true rfl⟩) zs0 hK hP (zr_recv hK (hP 0 (by decide)) rfl) rfl hl.1 rfl (Nat.le_of_ble_eq_true rfl) dX8_present_50 ⟨Nat.le_of_ble_eq_true rfl, Nat.le_of_ble_eq_true rfl⟩ (fun r_50 hr_50 => ?_)
      subst hr_50
      refine lv_goto (pc := 53) (tgt := 57) hx hb dX8_present_53 (by decide) ?_
      refine zr_iadd (pc := 57) (d := x + (gC g c ((8 + (2 * ((i : Int)))) + 1))) hx hb dX8_present_57 rfl ?_
      refine lv_istore_n (pc := 58) (lv' := [(3, .int (zI (x + (gC g c ((8 + (2 * ((i : Int)))) + 1))))), (0, .ref (am 0)), (1, .int (zI (c))), (2, .int (zI (m))), (4, .int (zI ((i : Int))))]) hx hb dX8_present_58 rfl hl (by decide) rfl (fun ls hl => ?_)
      refine zr_iinc (pc := 59) (d := ((i : Int)) + 1) (lv' := [(4, .int (zI (((i : Int)) + 1))), (3, .int (zI (x + (gC g c ((8 + (2 * ((i : Int)))) + 1))))), (0, .ref (am 0)), (1, .int (zI (c))), (2, .int (zI (m)))]) hx hb dX8_present_59 hl (k := 4) rfl rfl (by decide) rfl (fun ls hl => ?_)
      refine lv_goto (pc := 62) (tgt := 10) hx hb dX8_present_62 (by decide) ?_
      exact ih_10 (i + 1) ((x + (gC g c ((8 + (2 * ((i : Int)))) + 1)))) (⟨by omega, by rw [sm_s]; first | (rw [ti_t c_36]; show _ = _ + (_ + 1 * gC g c (8 + 2 * (i : Int) + 1)); omega) | (rw [ti_f c_36]; omega)⟩) (by omega) ls (lv_sub hl [2, 3, 4, 1, 0] rfl)
set_option maxHeartbeats 4000000 in
set_option maxRecDepth 100000 in
theorem ct_X8_isAllowed (l : Launch) (D : va_G) (cI cT : ClassId) (am : Nat → Nat) (μ : Nat → Int → Int) (g : Int → Int) (hg : μ 1 = g) (hI : Inv g) (c : Int) (m : Int) (d : Int) (h0 : 0 ≤ c) (h1 : c < g 0) (m0 : 0 ≤ m) (m1 : m < 3) (d0 : -1000 ≤ d) (d1 : d ≤ 1000) : zMr l yX8_isAllowed wsX8_isAllowed ({ frames := 2, cells := 0, slots := 0, locals := 46 }) D cI cT [.ref (am 0), .int (zI (c)), .int (zI (m)), .int (zI (d))] (fun _ H => zW D am 5 (mC cI am μ) H) (fun r => bz (alw g (pres g c m) c m d) r) := by
  refine Met.ofW (cc := cX8_isAllowed) (maxL := 6) (ret := (some .boolean)) (by decide) rfl ?_
  intro p_ e_ s m_ args below meth c_ s₁ B hml hv
  obtain ⟨rfl, hK, hF⟩ := hv
  have hx := B.exec
  have hb := B.bytes
  have hr := B.returns
  have hts := atoms_spec (ws := wsX8_isAllowed) B.pre
  have hown : s.vm.findClass RX8 = some m_.cls := findClass_of_methodNamed B.named
  have hlocks := B.notSynchronized
  have S : CallFix p_ m_ c_ cX8_isAllowed 6 s _ wsX8_isAllowed RX8 := ⟨hx, hb, hml, hown, hts⟩
  have hP := hF
  have hnC := iv_nC hI
  have hal := iv_al hI h0 h1
  have hor := iv_or hI h0 h1 m0 m1
  have hl := lv_entry ([.ref (am 0), .int (zI (c)), .int (zI (m)), .int (zI (d))]) (n := 6) (Nat.le_of_ble_eq_true rfl)
  rw [lg_entry_eq]
  generalize (lg_sl ([.ref (am 0), .int (zI (c)), .int (zI (m)), .int (zI (d))]) ++ List.replicate (6 - (lg_sl ([.ref (am 0), .int (zI (c)), .int (zI (m)), .int (zI (d))])).length) Slot.unset).toArray = ls at hl ⊢
  have hl : lv_has ls 6 [(0, .ref (am 0)), (1, .int (zI (c))), (2, .int (zI (m))), (3, .int (zI (d)))] := hl
  refine lv_aload_n (pc := 0) hx hb dX8_isAllowed_0 rfl (lv_at hl 0 rfl) ?_
  refine lv_iload_n (pc := 1) hx hb dX8_isAllowed_1 rfl (lv_at hl 1 rfl) ?_
  refine lv_iload_n (pc := 2) hx hb dX8_isAllowed_2 rfl (lv_at hl 2 rfl) ?_
  refine zr_vi (pc := 3) (As := [.int (zI (c)), .int (zI (m))]) (rest := []) S (ct_X8_present l D cI cT am μ g hg hI c m (by omega) (by omega) (by omega) (by omega)) (cwV 2 hts gX8_isAllowed_X8_present rfl rfl rfl (by decide +kernel) ⟨Nat.le_of_ble_eq_true rfl, Nat.le_of_ble_eq_true rfl⟩) zs0 hK hP (zr_recv hK (hP 0 (by decide)) rfl) rfl hl.1 rfl (Nat.le_of_ble_eq_true rfl) dX8_isAllowed_3 ⟨Nat.le_of_ble_eq_true rfl, Nat.le_of_ble_eq_true rfl⟩ (fun r_3 hr_3 => ?_)
  subst hr_3
  have hp_3 := pres_bd hI (c := c) (m := m) (by omega) (by omega) (by omega) (by omega)
  refine lv_iload_n (pc := 6) hx hb dX8_isAllowed_6 rfl (lv_at hl 3 rfl) ?_
  refine zr_iadd (pc := 7) (d := (pres g c m) + d) hx hb dX8_isAllowed_7 rfl ?_
  refine lv_istore (pc := 8) (lv' := [(4, .int (zI ((pres g c m) + d))), (0, .ref (am 0)), (1, .int (zI (c))), (2, .int (zI (m))), (3, .int (zI (d)))]) hx hb dX8_isAllowed_8 hl (by decide) rfl (fun ls hl => ?_)
  refine lv_aload_n (pc := 10) hx hb dX8_isAllowed_10 rfl (lv_at hl 1 rfl) ?_
  refine lv_iload_n (pc := 11) hx hb dX8_isAllowed_11 rfl (lv_at hl 2 rfl) ?_
  refine lv_iload_n (pc := 12) hx hb dX8_isAllowed_12 rfl (lv_at hl 3 rfl) ?_
  refine zr_vi (pc := 13) (As := [.int (zI (c)), .int (zI (m))]) (rest := []) S (ct_X8_of l D cI cT am μ g hg hI c m (by omega) (by omega) (by omega) (by omega)) (cwV 2 hts gX8_isAllowed_X8_of rfl rfl rfl (by decide +kernel) ⟨Nat.le_of_ble_eq_true rfl, Nat.le_of_ble_eq_true rfl⟩) zs0 hK hP (zr_recv hK (hP 0 (by decide)) rfl) rfl hl.1 rfl (Nat.le_of_ble_eq_true rfl) dX8_isAllowed_13 ⟨Nat.le_of_ble_eq_true rfl, Nat.le_of_ble_eq_true rfl⟩ (fun r_13 hr_13 => ?_)
  subst hr_13
  refine lv_istore (pc := 16) (lv' := [(5, .int (zI (gC g c m))), (4, .int (zI ((pres g c m) + d))), (0, .ref (am 0)), (1, .int (zI (c))), (2, .int (zI (m))), (3, .int (zI (d)))]) hx hb dX8_isAllowed_16 hl (by decide) rfl (fun ls hl => ?_)
  refine lv_iload (pc := 18) hx hb dX8_isAllowed_18 (lv_at hl 1 rfl) ?_
  refine lv_bipush (pc := 20) (v := zI 40) hx hb dX8_isAllowed_20 zc_bipush_40 ?_
  refine zr_icmp_lt (pc := 22) (tgt := 53) hx hb dX8_isAllowed_22 (by decide) (by omega) (by decide) (fun c_22 => ?_) (fun c_22 => ?_)
  · refine lv_iconst (pc := 53) (v := zI 0) hx hb dX8_isAllowed_53 rfl ?_
    exact W.zret (ty := .boolean) (v := zI (0)) hx hb hr (by first | rfl | decide) (fun tz ht hW => ⟨_, rfl, bz_f (fun q => by have q1 := q.1; have q2 := q.2.1; have q3 := q.2.2; omega), ht⟩) (fun _ h => by cases h) dX8_isAllowed_54
  · refine lv_iload (pc := 25) hx hb dX8_isAllowed_25 (lv_at hl 1 rfl) ?_
    refine lv_iload (pc := 27) hx hb dX8_isAllowed_27 (lv_at hl 0 rfl) ?_
    refine lv_bipush (pc := 29) (v := zI 20) hx hb dX8_isAllowed_29 zc_bipush_20 ?_
    refine zr_isub (pc := 31) (d := (gC g c m) - 20) hx hb dX8_isAllowed_31 rfl ?_
    refine zr_icmp_lt (pc := 32) (tgt := 53) hx hb dX8_isAllowed_32 (by decide) (by omega) (by omega) (fun c_32 => ?_) (fun c_32 => ?_)
    · refine lv_iconst (pc := 53) (v := zI 0) hx hb dX8_isAllowed_53 rfl ?_
      exact W.zret (ty := .boolean) (v := zI (0)) hx hb hr (by first | rfl | decide) (fun tz ht hW => ⟨_, rfl, bz_f (fun q => by have q1 := q.1; have q2 := q.2.1; have q3 := q.2.2; omega), ht⟩) (fun _ h => by cases h) dX8_isAllowed_54
    · refine lv_iload (pc := 35) hx hb dX8_isAllowed_35 (lv_at hl 1 rfl) ?_
      refine lv_iload (pc := 37) hx hb dX8_isAllowed_37 (lv_at hl 0 rfl) ?_
      refine lv_aload_n (pc := 39) hx hb dX8_isAllowed_39 rfl (lv_at hl 2 rfl) ?_
      refine lv_iload_n (pc := 40) hx hb dX8_isAllowed_40 rfl (lv_at hl 3 rfl) ?_
      refine lv_iconst (pc := 41) (v := zI 3) hx hb dX8_isAllowed_41 rfl ?_
      refine zr_vi (pc := 42) (As := [.int (zI (c)), .int (zI (3))]) (rest := [.int (zI (gC g c m)), .int (zI ((pres g c m) + d))]) S (ct_X8_of l D cI cT am μ g hg hI c 3 (by omega) (by omega) (by omega) (by omega)) (cwV 2 hts gX8_isAllowed_X8_of rfl rfl rfl (by decide +kernel) ⟨Nat.le_of_ble_eq_true rfl, Nat.le_of_ble_eq_true rfl⟩) zs0 hK hP (zr_recv hK (hP 0 (by decide)) rfl) rfl hl.1 rfl (Nat.le_of_ble_eq_true rfl) dX8_isAllowed_42 ⟨Nat.le_of_ble_eq_true rfl, Nat.le_of_ble_eq_true rfl⟩ (fun r_42 hr_42 => ?_)
      subst hr_42
      refine zr_iadd (pc := 45) (d := (gC g c m) + (gC g c 3)) hx hb dX8_isAllowed_45 rfl ?_
      refine zr_icmp_gt (pc := 46) (tgt := 53) hx hb dX8_isAllowed_46 (by decide) (by omega) (by omega) (fun c_46 => ?_) (fun c_46 => ?_)
      · refine lv_iconst (pc := 53) (v := zI 0) hx hb dX8_isAllowed_53 rfl ?_
        exact W.zret (ty := .boolean) (v := zI (0)) hx hb hr (by first | rfl | decide) (fun tz ht hW => ⟨_, rfl, bz_f (fun q => by have q1 := q.1; have q2 := q.2.1; have q3 := q.2.2; omega), ht⟩) (fun _ h => by cases h) dX8_isAllowed_54
      · refine lv_iconst (pc := 49) (v := zI 1) hx hb dX8_isAllowed_49 rfl ?_
        refine lv_goto (pc := 50) (tgt := 54) hx hb dX8_isAllowed_50 (by decide) ?_
        exact W.zret (ty := .boolean) (v := zI (1)) hx hb hr (by first | rfl | decide) (fun tz ht hW => ⟨_, rfl, bz_t ⟨by omega, by omega, by omega⟩, ht⟩) (fun _ h => by cases h) dX8_isAllowed_54
set_option maxHeartbeats 4000000 in
set_option maxRecDepth 100000 in
theorem ct_X8_isAway (l : Launch) (D : va_G) (cI cT : ClassId) (am : Nat → Nat) (μ : Nat → Int → Int) (g : Int → Int) (hg : μ 1 = g) (hI : Inv g) (c : Int) (d : Int) (c0 : -1 ≤ c) (c1 : c ≤ 100) (d0 : 0 ≤ d) (d1 : d ≤ 1000) : zMr l yX8_isAway wsX8_isAway ({ frames := 1, cells := 0, slots := 0, locals := 25 }) D cI cT [.ref (am 0), .int (zI (c)), .int (zI (d))] (fun _ H => zW D am 5 (mC cI am μ) H) (fun r => bz (awy g c d 1) r) := by
  refine Met.ofW (cc := cX8_isAway) (maxL := 4) (ret := (some .boolean)) (by decide) rfl ?_
  intro p_ e_ s m_ args below meth c_ s₁ B hml hv
  obtain ⟨rfl, hK, hF⟩ := hv
  have hx := B.exec
  have hb := B.bytes
  have hr := B.returns
  have hts := atoms_spec (ws := wsX8_isAway) B.pre
  have hown : s.vm.findClass RX8 = some m_.cls := findClass_of_methodNamed B.named
  have hlocks := B.notSynchronized
  have S : CallFix p_ m_ c_ cX8_isAway 4 s _ wsX8_isAway RX8 := ⟨hx, hb, hml, hown, hts⟩
  have i_X8 : ∀ w ∈ u_ws RX8 TX8 12, w ∈ wsX8_isAway := fun _ h => List.mem_cons_of_mem _ (List.mem_append_right _ h)
  have hP := hF
  have hnH := iv_nH hI
  have hnC := iv_nC hI
  have hl := lv_entry ([.ref (am 0), .int (zI (c)), .int (zI (d))]) (n := 4) (Nat.le_of_ble_eq_true rfl)
  rw [lg_entry_eq]
  generalize (lg_sl ([.ref (am 0), .int (zI (c)), .int (zI (d))]) ++ List.replicate (4 - (lg_sl ([.ref (am 0), .int (zI (c)), .int (zI (d))])).length) Slot.unset).toArray = ls at hl ⊢
  have hl : lv_has ls 4 [(0, .ref (am 0)), (1, .int (zI (c))), (2, .int (zI (d)))] := hl
  refine lv_iconst (pc := 0) (v := zI 0) hx hb dX8_isAway_0 rfl ?_
  refine lv_istore_n (pc := 1) (lv' := [(3, .int (zI (0))), (0, .ref (am 0)), (1, .int (zI (c))), (2, .int (zI (d)))]) hx hb dX8_isAway_1 rfl hl (by decide) rfl (fun ls hl => ?_)
  refine zr_loop1 (fun (i : Nat) => ((i : Int) ≤ g 2) ∧ (∀ b : Int, 0 ≤ b → b < (i : Int) → ¬ ovl g c d 1 b)) (fun (i : Nat) => (g 2 : Int).toNat - i) (fun (i : Nat) => [(0, .ref (am 0)), (1, .int (zI (c))), (2, .int (zI (d))), (3, .int (zI ((i : Int))))]) ?_ (0) (⟨by omega, fa_0⟩) (lv_sub hl [1, 2, 3, 0] rfl)
  intro i hinv ih_2 ls hl
  obtain ⟨h_i, h_n⟩ := hinv
  refine lv_iload_n (pc := 2) hx hb dX8_isAway_2 rfl (lv_at hl 3 rfl) ?_
  refine lv_aload_n (pc := 3) hx hb dX8_isAway_3 rfl (lv_at hl 0 rfl) ?_
  refine zr_get (pc := 4) S hK (hP 0 (by decide)) rfl i_X8 1 (by decide) (List.mem_of_getElem? (i := 1) rfl) rfl dX8_isAway_4 ?_
  refine lv_iconst (pc := 7) (v := zI 2) hx hb dX8_isAway_7 rfl ?_
  refine zr_ald (pc := 8) (n := 572) hx hb (zAr_of (zK_int hK) (hP 1 (by decide))) (by decide) (by decide) (by decide) dX8_isAway_8 ?_
  refine zr_top (b := g 2) (congrFun hg _) ?_
  refine zr_icmp_ge (pc := 9) (tgt := 61) hx hb dX8_isAway_9 (by decide) (by omega) (by omega) (fun c_9 => ?_) (fun c_9 => ?_)
  · refine lv_iconst (pc := 61) (v := zI 0) hx hb dX8_isAway_61 rfl ?_
    exact W.zret (ty := .boolean) (v := zI (0)) hx hb hr (by first | rfl | decide) (fun tz ht hW => ⟨_, rfl, bz_f (fun h => by obtain ⟨b, b0, b1, b2⟩ := h; exact h_n b b0 (by omega) b2), ht⟩) (fun _ h => by cases h) dX8_isAway_62
  · have hh := iv_hi hI (h := (i : Int)) (by omega) (by omega)
    refine lv_aload_n (pc := 12) hx hb dX8_isAway_12 rfl (lv_at hl 0 rfl) ?_
    refine lv_iload_n (pc := 13) hx hb dX8_isAway_13 rfl (lv_at hl 3 rfl) ?_
    refine lv_iconst (pc := 14) (v := zI 0) hx hb dX8_isAway_14 rfl ?_
    refine zr_vi (pc := 15) (As := [.int (zI ((i : Int))), .int (zI (0))]) (rest := []) S (ct_X8_ofHire l D cI cT am μ g hg hI ((i : Int)) 0 (by omega) (by omega) (by omega) (by omega)) (cwV 2 hts gX8_isAway_X8_ofHire rfl rfl rfl (by decide +kernel) ⟨Nat.le_of_ble_eq_true rfl, Nat.le_of_ble_eq_true rfl⟩) zs0 hK hP (zr_recv hK (hP 0 (by decide)) rfl) rfl hl.1 rfl (Nat.le_of_ble_eq_true rfl) dX8_isAway_15 ⟨Nat.le_of_ble_eq_true rfl, Nat.le_of_ble_eq_true rfl⟩ (fun r_15 hr_15 => ?_)
    subst hr_15
    refine lv_iload_n (pc := 18) hx hb dX8_isAway_18 rfl (lv_at hl 1 rfl) ?_
    refine zr_icmp_ne (pc := 19) (tgt := 55) hx hb dX8_isAway_19 (by decide) (by omega) (by omega) (fun c_19 => ?_) (fun c_19 => ?_)
    · refine zr_iinc (pc := 55) (d := ((i : Int)) + 1) (lv' := [(3, .int (zI (((i : Int)) + 1))), (0, .ref (am 0)), (1, .int (zI (c))), (2, .int (zI (d)))]) hx hb dX8_isAway_55 hl (k := 3) rfl rfl (by decide) rfl (fun ls hl => ?_)
      refine lv_goto (pc := 58) (tgt := 2) hx hb dX8_isAway_58 (by decide) ?_
      exact ih_2 (i + 1) (⟨by omega, fa_s h_n (fun q => by first | exact c_19 q.1 | (have q2 := q.2.1; have q3 := q.2.2; omega))⟩) (by omega) ls (lv_sub hl [1, 2, 3, 0] rfl)
    · refine lv_iload_n (pc := 22) hx hb dX8_isAway_22 rfl (lv_at hl 2 rfl) ?_
      refine zr_i2l (pc := 23) hx hb dX8_isAway_23 (by omega) ?_
      refine lv_aload_n (pc := 24) hx hb dX8_isAway_24 rfl (lv_at hl 0 rfl) ?_
      refine lv_iload_n (pc := 25) hx hb dX8_isAway_25 rfl (lv_at hl 3 rfl) ?_
      refine lv_iconst (pc := 26) (v := zI 1) hx hb dX8_isAway_26 rfl ?_
      refine zr_vi (pc := 27) (As := [.int (zI ((i : Int))), .int (zI (1))]) (rest := [.long (zL (d))]) S (ct_X8_ofHire l D cI cT am μ g hg hI ((i : Int)) 1 (by omega) (by omega) (by omega) (by omega)) (cwV 2 hts gX8_isAway_X8_ofHire rfl rfl rfl (by decide +kernel) ⟨Nat.le_of_ble_eq_true rfl, Nat.le_of_ble_eq_true rfl⟩) zs0 hK hP (zr_recv hK (hP 0 (by decide)) rfl) rfl hl.1 rfl (Nat.le_of_ble_eq_true rfl) dX8_isAway_27 ⟨Nat.le_of_ble_eq_true rfl, Nat.le_of_ble_eq_true rfl⟩ (fun r_27 hr_27 => ?_)
      subst hr_27
      refine zr_i2l (pc := 30) hx hb dX8_isAway_30 (by omega) ?_
      refine lv_aload_n (pc := 31) hx hb dX8_isAway_31 rfl (lv_at hl 0 rfl) ?_
      refine lv_iload_n (pc := 32) hx hb dX8_isAway_32 rfl (lv_at hl 3 rfl) ?_
      refine lv_iconst (pc := 33) (v := zI 1) hx hb dX8_isAway_33 rfl ?_
      refine zr_vi (pc := 34) (As := [.int (zI ((i : Int))), .int (zI (1))]) (rest := [.long (zL (gH g ((i : Int)) 1)), .long (zL (d))]) S (ct_X8_ofHire l D cI cT am μ g hg hI ((i : Int)) 1 (by omega) (by omega) (by omega) (by omega)) (cwV 2 hts gX8_isAway_X8_ofHire rfl rfl rfl (by decide +kernel) ⟨Nat.le_of_ble_eq_true rfl, Nat.le_of_ble_eq_true rfl⟩) zs0 hK hP (zr_recv hK (hP 0 (by decide)) rfl) rfl hl.1 rfl (Nat.le_of_ble_eq_true rfl) dX8_isAway_34 ⟨Nat.le_of_ble_eq_true rfl, Nat.le_of_ble_eq_true rfl⟩ (fun r_34 hr_34 => ?_)
      subst hr_34
      refine lv_aload_n (pc := 37) hx hb dX8_isAway_37 rfl (lv_at hl 0 rfl) ?_
      refine lv_iload_n (pc := 38) hx hb dX8_isAway_38 rfl (lv_at hl 3 rfl) ?_
      refine lv_iconst (pc := 39) (v := zI 2) hx hb dX8_isAway_39 rfl ?_
      refine zr_vi (pc := 40) (As := [.int (zI ((i : Int))), .int (zI (2))]) (rest := [.int (zI (gH g ((i : Int)) 1)), .long (zL (gH g ((i : Int)) 1)), .long (zL (d))]) S (ct_X8_ofHire l D cI cT am μ g hg hI ((i : Int)) 2 (by omega) (by omega) (by omega) (by omega)) (cwV 2 hts gX8_isAway_X8_ofHire rfl rfl rfl (by decide +kernel) ⟨Nat.le_of_ble_eq_true rfl, Nat.le_of_ble_eq_true rfl⟩) zs0 hK hP (zr_recv hK (hP 0 (by decide)) rfl) rfl hl.1 rfl (Nat.le_of_ble_eq_true rfl) dX8_isAway_40 ⟨Nat.le_of_ble_eq_true rfl, Nat.le_of_ble_eq_true rfl⟩ (fun r_40 hr_40 => ?_)
      subst hr_40
      refine zr_iadd (pc := 43) (d := (gH g ((i : Int)) 1) + (gH g ((i : Int)) 2)) hx hb dX8_isAway_43 rfl ?_
      refine lv_iconst (pc := 44) (v := zI 1) hx hb dX8_isAway_44 rfl ?_
      refine zr_isub (pc := 45) (d := ((gH g ((i : Int)) 1) + (gH g ((i : Int)) 2)) - 1) hx hb dX8_isAway_45 rfl ?_
      refine zr_i2l (pc := 46) hx hb dX8_isAway_46 (by omega) ?_
      refine zr_si (pc := 47) (As := [.long (zL (d)), .long (zL (gH g ((i : Int)) 1)), .long (zL (((gH g ((i : Int)) 1) + (gH g ((i : Int)) 2)) - 1))]) (rest := []) S (ct_X8_in l D cI cT d (gH g ((i : Int)) 1) (((gH g ((i : Int)) 1) + (gH g ((i : Int)) 2)) - 1) (by omega) (by omega) (by omega)) (va_cwS 3 hts gX8_isAway_X8_in rfl rfl rfl (by decide +kernel) ⟨Nat.le_of_ble_eq_true rfl, Nat.le_of_ble_eq_true rfl⟩) zs0 hK trivial rfl hl.1 rfl (Nat.le_of_ble_eq_true rfl) dX8_isAway_47 ⟨Nat.le_of_ble_eq_true rfl, Nat.le_of_ble_eq_true rfl⟩ (fun r_47 hr_47 => ?_)
      rcases hr_47 with ⟨hb_47, rfl⟩ | ⟨hb_47, rfl⟩
      · refine zr_if_eq (pc := 50) (tgt := 55) hx hb dX8_isAway_50 (by decide) (by decide) (fun z => absurd z (by decide)) (fun _ => ?_)
        refine lv_iconst (pc := 53) (v := zI 1) hx hb dX8_isAway_53 rfl ?_
        exact W.zret (ty := .boolean) (v := zI (1)) hx hb hr (by first | rfl | decide) (fun tz ht hW => ⟨_, rfl, bz_t ⟨i, by omega, by omega, c_19, by omega, by omega⟩, ht⟩) (fun _ h => by cases h) dX8_isAway_54
      · refine zr_if_eq (pc := 50) (tgt := 55) hx hb dX8_isAway_50 (by decide) (by decide) (fun _ => ?_) (fun z => absurd z (by decide))
        refine zr_iinc (pc := 55) (d := ((i : Int)) + 1) (lv' := [(3, .int (zI (((i : Int)) + 1))), (0, .ref (am 0)), (1, .int (zI (c))), (2, .int (zI (d)))]) hx hb dX8_isAway_55 hl (k := 3) rfl rfl (by decide) rfl (fun ls hl => ?_)
        refine lv_goto (pc := 58) (tgt := 2) hx hb dX8_isAway_58 (by decide) ?_
        exact ih_2 (i + 1) (⟨by omega, fa_s h_n (fun q => by first | exact c_19 q.1 | (have q2 := q.2.1; have q3 := q.2.2; omega))⟩) (by omega) ls (lv_sub hl [1, 2, 3, 0] rfl)
set_option maxHeartbeats 4000000 in
set_option maxRecDepth 100000 in
theorem ct_X8_isAwayToday (l : Launch) (D : va_G) (cI cT : ClassId) (am : Nat → Nat) (μ : Nat → Int → Int) (g : Int → Int) (hg : μ 1 = g) (hI : Inv g) (c : Int) (c0 : -1 ≤ c) (c1 : c ≤ 100) : zMr l yX8_isAwayToday wsX8_isAwayToday ({ frames := 2, cells := 0, slots := 0, locals := 48 }) D cI cT [.ref (am 0), .int (zI (c))] (fun _ H => zW D am 5 (mC cI am μ) H) (fun r => bz (awy g c (g 3) 1) r) := by
  refine Met.ofW (cc := cX8_isAwayToday) (maxL := 2) (ret := (some .boolean)) (by decide) rfl ?_
  intro p_ e_ s m_ args below meth c_ s₁ B hml hv
  obtain ⟨rfl, hK, hF⟩ := hv
  have hx := B.exec
  have hb := B.bytes
  have hr := B.returns
  have hts := atoms_spec (ws := wsX8_isAwayToday) B.pre
  have hown : s.vm.findClass RX8 = some m_.cls := findClass_of_methodNamed B.named
  have hlocks := B.notSynchronized
  have S : CallFix p_ m_ c_ cX8_isAwayToday 2 s _ wsX8_isAwayToday RX8 := ⟨hx, hb, hml, hown, hts⟩
  have i_X8 : ∀ w ∈ u_ws RX8 TX8 12, w ∈ wsX8_isAwayToday := fun _ h => List.mem_cons_of_mem _ (List.mem_append_right _ h)
  have hP := hF
  have hnC := iv_nC hI
  have hto := iv_to hI
  have hl := lv_entry ([.ref (am 0), .int (zI (c))]) (n := 2) (Nat.le_of_ble_eq_true rfl)
  rw [lg_entry_eq]
  generalize (lg_sl ([.ref (am 0), .int (zI (c))]) ++ List.replicate (2 - (lg_sl ([.ref (am 0), .int (zI (c))])).length) Slot.unset).toArray = ls at hl ⊢
  have hl : lv_has ls 2 [(0, .ref (am 0)), (1, .int (zI (c)))] := hl
  refine lv_aload_n (pc := 0) hx hb dX8_isAwayToday_0 rfl (lv_at hl 0 rfl) ?_
  refine lv_iload_n (pc := 1) hx hb dX8_isAwayToday_1 rfl (lv_at hl 1 rfl) ?_
  refine lv_aload_n (pc := 2) hx hb dX8_isAwayToday_2 rfl (lv_at hl 0 rfl) ?_
  refine zr_get (pc := 3) S hK (hP 0 (by decide)) rfl i_X8 1 (by decide) (List.mem_of_getElem? (i := 1) rfl) rfl dX8_isAwayToday_3 ?_
  refine lv_iconst (pc := 6) (v := zI 3) hx hb dX8_isAwayToday_6 rfl ?_
  refine zr_ald (pc := 7) (n := 572) hx hb (zAr_of (zK_int hK) (hP 1 (by decide))) (by decide) (by decide) (by decide) dX8_isAwayToday_7 ?_
  refine zr_top (b := g 3) (congrFun hg _) ?_
  refine zr_vi (pc := 8) (As := [.int (zI (c)), .int (zI (g 3))]) (rest := []) S (ct_X8_isAway l D cI cT am μ g hg hI c (g 3) (by omega) (by omega) (by omega) (by omega)) (cwV 2 hts gX8_isAwayToday_X8_isAway rfl rfl rfl (by decide +kernel) ⟨Nat.le_of_ble_eq_true rfl, Nat.le_of_ble_eq_true rfl⟩) zs0 hK hP (zr_recv hK (hP 0 (by decide)) rfl) rfl hl.1 rfl (Nat.le_of_ble_eq_true rfl) dX8_isAwayToday_8 ⟨Nat.le_of_ble_eq_true rfl, Nat.le_of_ble_eq_true rfl⟩ (fun r_8 hr_8 => ?_)
  rcases hr_8 with ⟨hb_8, rfl⟩ | ⟨hb_8, rfl⟩
  · exact W.zret (ty := .boolean) (v := zI (1)) hx hb hr (by first | rfl | decide) (fun tz ht hW => ⟨_, rfl, bz_t (hb_8), ht⟩) (fun _ h => by cases h) dX8_isAwayToday_11
  · exact W.zret (ty := .boolean) (v := zI (0)) hx hb hr (by first | rfl | decide) (fun tz ht hW => ⟨_, rfl, bz_f (hb_8), ht⟩) (fun _ h => by cases h) dX8_isAwayToday_11
set_option maxHeartbeats 4000000 in
set_option maxRecDepth 100000 in
theorem ct_X8_wearers (l : Launch) (D : va_G) (cI cT : ClassId) (am : Nat → Nat) (μ : Nat → Int → Int) (g : Int → Int) (hg : μ 1 = g) (hI : Inv g) (sc : Int) (c : Int) (s0 : 0 ≤ sc) (s1 : sc < 12) (c0 : -1 ≤ c) (c1 : c ≤ 100) : zMr l yX8_wearers wsX8_wearers ({ frames := 1, cells := 0, slots := 0, locals := 22 }) D cI cT [.ref (am 0), .int (zI (sc)), .int (zI (c))] (fun _ H => zW D am 5 (mC cI am μ) H) (fun r => r = zI (wrs g sc c)) := by
  refine Met.ofW (cc := cX8_wearers) (maxL := 5) (ret := (some .int)) (by decide) rfl ?_
  intro p_ e_ s m_ args below meth c_ s₁ B hml hv
  obtain ⟨rfl, hK, hF⟩ := hv
  have hx := B.exec
  have hb := B.bytes
  have hr := B.returns
  have hts := atoms_spec (ws := wsX8_wearers) B.pre
  have hown : s.vm.findClass RX8 = some m_.cls := findClass_of_methodNamed B.named
  have hlocks := B.notSynchronized
  have S : CallFix p_ m_ c_ cX8_wearers 5 s _ wsX8_wearers RX8 := ⟨hx, hb, hml, hown, hts⟩
  have i_X8 : ∀ w ∈ u_ws RX8 TX8 12, w ∈ wsX8_wearers := fun _ h => List.mem_cons_of_mem _ (List.mem_append_right _ h)
  have hP := hF
  have hnC := iv_nC hI
  have hnA := iv_nA hI
  have hl := lv_entry ([.ref (am 0), .int (zI (sc)), .int (zI (c))]) (n := 5) (Nat.le_of_ble_eq_true rfl)
  rw [lg_entry_eq]
  generalize (lg_sl ([.ref (am 0), .int (zI (sc)), .int (zI (c))]) ++ List.replicate (5 - (lg_sl ([.ref (am 0), .int (zI (sc)), .int (zI (c))])).length) Slot.unset).toArray = ls at hl ⊢
  have hl : lv_has ls 5 [(0, .ref (am 0)), (1, .int (zI (sc))), (2, .int (zI (c)))] := hl
  refine lv_iconst (pc := 0) (v := zI 0) hx hb dX8_wearers_0 rfl ?_
  refine lv_istore_n (pc := 1) (lv' := [(3, .int (zI (0))), (0, .ref (am 0)), (1, .int (zI (sc))), (2, .int (zI (c)))]) hx hb dX8_wearers_1 rfl hl (by decide) rfl (fun ls hl => ?_)
  refine lv_iconst (pc := 2) (v := zI 0) hx hb dX8_wearers_2 rfl ?_
  refine lv_istore (pc := 3) (lv' := [(4, .int (zI (0))), (3, .int (zI (0))), (0, .ref (am 0)), (1, .int (zI (sc))), (2, .int (zI (c)))]) hx hb dX8_wearers_3 hl (by decide) rfl (fun ls hl => ?_)
  refine zr_loop2 (fun (i : Nat) (x : Int) => ((i : Int) ≤ g 1) ∧ (x = sm (fun a => ti (gW g sc a = c)) i)) (fun (i : Nat) (x : Int) => (g 1 : Int).toNat - i) (fun (i : Nat) (x : Int) => [(0, .ref (am 0)), (1, .int (zI (sc))), (2, .int (zI (c))), (3, .int (zI (x))), (4, .int (zI ((i : Int))))]) ?_ (0) (0) (⟨by omega, by rw [sm_0]⟩) (lv_sub hl [2, 3, 4, 1, 0] rfl)
  intro i x hinv ih_5 ls hl
  obtain ⟨h_i, h_x⟩ := hinv
  refine lv_iload (pc := 5) hx hb dX8_wearers_5 (lv_at hl 4 rfl) ?_
  refine lv_aload_n (pc := 7) hx hb dX8_wearers_7 rfl (lv_at hl 0 rfl) ?_
  refine zr_get (pc := 8) S hK (hP 0 (by decide)) rfl i_X8 1 (by decide) (List.mem_of_getElem? (i := 1) rfl) rfl dX8_wearers_8 ?_
  refine lv_iconst (pc := 11) (v := zI 1) hx hb dX8_wearers_11 rfl ?_
  refine zr_ald (pc := 12) (n := 572) hx hb (zAr_of (zK_int hK) (hP 1 (by decide))) (by decide) (by decide) (by decide) dX8_wearers_12 ?_
  refine zr_top (b := g 1) (congrFun hg _) ?_
  refine zr_icmp_ge (pc := 13) (tgt := 41) hx hb dX8_wearers_13 (by decide) (by omega) (by omega) (fun c_13 => ?_) (fun c_13 => ?_)
  · refine lv_iload_n (pc := 41) hx hb dX8_wearers_41 rfl (lv_at hl 3 rfl) ?_
    exact W.iret (v := zI (x)) hx hb hr (fun tz ht hW => ⟨_, rfl, congrArg zI (by rw [h_x, show i = (g 1).toNat by omega, wrs]), ht⟩) (fun _ h => by cases h) dX8_wearers_42
  · refine lv_iload_n (pc := 16) hx hb dX8_wearers_16 rfl (lv_at hl 3 rfl) ?_
    refine lv_aload_n (pc := 17) hx hb dX8_wearers_17 rfl (lv_at hl 0 rfl) ?_
    refine lv_iload_n (pc := 18) hx hb dX8_wearers_18 rfl (lv_at hl 1 rfl) ?_
    refine lv_iload (pc := 19) hx hb dX8_wearers_19 (lv_at hl 4 rfl) ?_
    refine zr_vi (pc := 21) (As := [.int (zI (sc)), .int (zI ((i : Int)))]) (rest := [.int (zI (x))]) S (ct_X8_worn l D cI cT am μ g hg hI sc ((i : Int)) (by omega) (by omega) (by omega) (by omega)) (cwV 2 hts gX8_wearers_X8_worn rfl rfl rfl (by decide +kernel) ⟨Nat.le_of_ble_eq_true rfl, Nat.le_of_ble_eq_true rfl⟩) zs0 hK hP (zr_recv hK (hP 0 (by decide)) rfl) rfl hl.1 rfl (Nat.le_of_ble_eq_true rfl) dX8_wearers_21 ⟨Nat.le_of_ble_eq_true rfl, Nat.le_of_ble_eq_true rfl⟩ (fun r_21 hr_21 => ?_)
    subst hr_21
    have hwo := iv_wo hI (a := (i : Int)) (sc := sc) (by omega) (by omega) (by omega) (by omega)
    refine lv_iload_n (pc := 24) hx hb dX8_wearers_24 rfl (lv_at hl 2 rfl) ?_
    refine zr_icmp_ne (pc := 25) (tgt := 32) hx hb dX8_wearers_25 (by decide) (by omega) (by omega) (fun c_25 => ?_) (fun c_25 => ?_)
    · refine lv_iconst (pc := 32) (v := zI 0) hx hb dX8_wearers_32 rfl ?_
      refine zr_iadd (pc := 33) (d := x + 0) hx hb dX8_wearers_33 rfl ?_
      refine lv_istore_n (pc := 34) (lv' := [(3, .int (zI (x + 0))), (0, .ref (am 0)), (1, .int (zI (sc))), (2, .int (zI (c))), (4, .int (zI ((i : Int))))]) hx hb dX8_wearers_34 rfl hl (by decide) rfl (fun ls hl => ?_)
      refine zr_iinc (pc := 35) (d := ((i : Int)) + 1) (lv' := [(4, .int (zI (((i : Int)) + 1))), (3, .int (zI (x + 0))), (0, .ref (am 0)), (1, .int (zI (sc))), (2, .int (zI (c)))]) hx hb dX8_wearers_35 hl (k := 4) rfl rfl (by decide) rfl (fun ls hl => ?_)
      refine lv_goto (pc := 38) (tgt := 5) hx hb dX8_wearers_38 (by decide) ?_
      exact ih_5 (i + 1) ((x + 0)) (⟨by omega, by rw [sm_s]; first | (rw [ti_t c_25]; omega) | (rw [ti_f c_25]; omega)⟩) (by omega) ls (lv_sub hl [2, 3, 4, 1, 0] rfl)
    · refine lv_iconst (pc := 28) (v := zI 1) hx hb dX8_wearers_28 rfl ?_
      refine lv_goto (pc := 29) (tgt := 33) hx hb dX8_wearers_29 (by decide) ?_
      refine zr_iadd (pc := 33) (d := x + 1) hx hb dX8_wearers_33 rfl ?_
      refine lv_istore_n (pc := 34) (lv' := [(3, .int (zI (x + 1))), (0, .ref (am 0)), (1, .int (zI (sc))), (2, .int (zI (c))), (4, .int (zI ((i : Int))))]) hx hb dX8_wearers_34 rfl hl (by decide) rfl (fun ls hl => ?_)
      refine zr_iinc (pc := 35) (d := ((i : Int)) + 1) (lv' := [(4, .int (zI (((i : Int)) + 1))), (3, .int (zI (x + 1))), (0, .ref (am 0)), (1, .int (zI (sc))), (2, .int (zI (c)))]) hx hb dX8_wearers_35 hl (k := 4) rfl rfl (by decide) rfl (fun ls hl => ?_)
      refine lv_goto (pc := 38) (tgt := 5) hx hb dX8_wearers_38 (by decide) ?_
      exact ih_5 (i + 1) ((x + 1)) (⟨by omega, by rw [sm_s]; first | (rw [ti_t c_25]; omega) | (rw [ti_f c_25]; omega)⟩) (by omega) ls (lv_sub hl [2, 3, 4, 1, 0] rfl)
set_option maxHeartbeats 4000000 in
set_option maxRecDepth 100000 in
theorem ct_X8_scenesOf (l : Launch) (D : va_G) (cI cT : ClassId) (am : Nat → Nat) (μ : Nat → Int → Int) (g : Int → Int) (hg : μ 1 = g) (hI : Inv g) (c : Int) (c0 : -1 ≤ c) (c1 : c ≤ 100) : zMr l yX8_scenesOf wsX8_scenesOf ({ frames := 2, cells := 0, slots := 0, locals := 46 }) D cI cT [.ref (am 0), .int (zI (c))] (fun _ H => zW D am 5 (mC cI am μ) H) (fun r => r = zI (scn g c)) := by
  refine Met.ofW (cc := cX8_scenesOf) (maxL := 4) (ret := (some .int)) (by decide) rfl ?_
  intro p_ e_ s m_ args below meth c_ s₁ B hml hv
  obtain ⟨rfl, hK, hF⟩ := hv
  have hx := B.exec
  have hb := B.bytes
  have hr := B.returns
  have hts := atoms_spec (ws := wsX8_scenesOf) B.pre
  have hown : s.vm.findClass RX8 = some m_.cls := findClass_of_methodNamed B.named
  have hlocks := B.notSynchronized
  have S : CallFix p_ m_ c_ cX8_scenesOf 4 s _ wsX8_scenesOf RX8 := ⟨hx, hb, hml, hown, hts⟩
  have hP := hF
  have hnC := iv_nC hI
  have hnA := iv_nA hI
  have hl := lv_entry ([.ref (am 0), .int (zI (c))]) (n := 4) (Nat.le_of_ble_eq_true rfl)
  rw [lg_entry_eq]
  generalize (lg_sl ([.ref (am 0), .int (zI (c))]) ++ List.replicate (4 - (lg_sl ([.ref (am 0), .int (zI (c))])).length) Slot.unset).toArray = ls at hl ⊢
  have hl : lv_has ls 4 [(0, .ref (am 0)), (1, .int (zI (c)))] := hl
  refine lv_iconst (pc := 0) (v := zI 0) hx hb dX8_scenesOf_0 rfl ?_
  refine lv_istore_n (pc := 1) (lv' := [(2, .int (zI (0))), (0, .ref (am 0)), (1, .int (zI (c)))]) hx hb dX8_scenesOf_1 rfl hl (by decide) rfl (fun ls hl => ?_)
  refine lv_iconst (pc := 2) (v := zI 0) hx hb dX8_scenesOf_2 rfl ?_
  refine lv_istore_n (pc := 3) (lv' := [(3, .int (zI (0))), (2, .int (zI (0))), (0, .ref (am 0)), (1, .int (zI (c)))]) hx hb dX8_scenesOf_3 rfl hl (by decide) rfl (fun ls hl => ?_)
  refine zr_loop2 (fun (i : Nat) (x : Int) => ((i : Int) ≤ 12) ∧ (x = sm (fun sc => ti (0 < wrs g sc c)) i)) (fun (i : Nat) (x : Int) => (12 : Int).toNat - i) (fun (i : Nat) (x : Int) => [(0, .ref (am 0)), (1, .int (zI (c))), (2, .int (zI (x))), (3, .int (zI ((i : Int))))]) ?_ (0) (0) (⟨by omega, by rw [sm_0]⟩) (lv_sub hl [2, 3, 1, 0] rfl)
  intro i x hinv ih_4 ls hl
  obtain ⟨h_i, h_x⟩ := hinv
  refine lv_iload_n (pc := 4) hx hb dX8_scenesOf_4 rfl (lv_at hl 3 rfl) ?_
  refine lv_bipush (pc := 5) (v := zI 12) hx hb dX8_scenesOf_5 zc_bipush_12 ?_
  refine zr_icmp_ge (pc := 7) (tgt := 33) hx hb dX8_scenesOf_7 (by decide) (by omega) (by decide) (fun c_7 => ?_) (fun c_7 => ?_)
  · refine lv_iload_n (pc := 33) hx hb dX8_scenesOf_33 rfl (lv_at hl 2 rfl) ?_
    exact W.iret (v := zI (x)) hx hb hr (fun tz ht hW => ⟨_, rfl, congrArg zI (by rw [h_x, show i = 12 by omega, scn]), ht⟩) (fun _ h => by cases h) dX8_scenesOf_34
  · refine lv_iload_n (pc := 10) hx hb dX8_scenesOf_10 rfl (lv_at hl 2 rfl) ?_
    refine lv_aload_n (pc := 11) hx hb dX8_scenesOf_11 rfl (lv_at hl 0 rfl) ?_
    refine lv_iload_n (pc := 12) hx hb dX8_scenesOf_12 rfl (lv_at hl 3 rfl) ?_
    refine lv_iload_n (pc := 13) hx hb dX8_scenesOf_13 rfl (lv_at hl 1 rfl) ?_
    refine zr_vi (pc := 14) (As := [.int (zI ((i : Int))), .int (zI (c))]) (rest := [.int (zI (x))]) S (ct_X8_wearers l D cI cT am μ g hg hI ((i : Int)) c (by omega) (by omega) (by omega) (by omega)) (cwV 2 hts gX8_scenesOf_X8_wearers rfl rfl rfl (by decide +kernel) ⟨Nat.le_of_ble_eq_true rfl, Nat.le_of_ble_eq_true rfl⟩) zs0 hK hP (zr_recv hK (hP 0 (by decide)) rfl) rfl hl.1 rfl (Nat.le_of_ble_eq_true rfl) dX8_scenesOf_14 ⟨Nat.le_of_ble_eq_true rfl, Nat.le_of_ble_eq_true rfl⟩ (fun r_14 hr_14 => ?_)
    subst hr_14
    have hw_14 := wrs_bd hI (((i : Int))) (c)
    refine zr_if_le (pc := 17) (tgt := 24) hx hb dX8_scenesOf_17 (by decide) (by omega) (fun c_17 => ?_) (fun c_17 => ?_)
    · refine lv_iconst (pc := 24) (v := zI 0) hx hb dX8_scenesOf_24 rfl ?_
      refine zr_iadd (pc := 25) (d := x + 0) hx hb dX8_scenesOf_25 rfl ?_
      refine lv_istore_n (pc := 26) (lv' := [(2, .int (zI (x + 0))), (0, .ref (am 0)), (1, .int (zI (c))), (3, .int (zI ((i : Int))))]) hx hb dX8_scenesOf_26 rfl hl (by decide) rfl (fun ls hl => ?_)
      refine zr_iinc (pc := 27) (d := ((i : Int)) + 1) (lv' := [(3, .int (zI (((i : Int)) + 1))), (2, .int (zI (x + 0))), (0, .ref (am 0)), (1, .int (zI (c)))]) hx hb dX8_scenesOf_27 hl (k := 3) rfl rfl (by decide) rfl (fun ls hl => ?_)
      refine lv_goto (pc := 30) (tgt := 4) hx hb dX8_scenesOf_30 (by decide) ?_
      exact ih_4 (i + 1) ((x + 0)) (⟨by omega, by rw [sm_s]; first | (rw [ti_t c_17]; omega) | (rw [ti_f (by omega)]; omega)⟩) (by omega) ls (lv_sub hl [2, 3, 1, 0] rfl)
    · refine lv_iconst (pc := 20) (v := zI 1) hx hb dX8_scenesOf_20 rfl ?_
      refine lv_goto (pc := 21) (tgt := 25) hx hb dX8_scenesOf_21 (by decide) ?_
      refine zr_iadd (pc := 25) (d := x + 1) hx hb dX8_scenesOf_25 rfl ?_
      refine lv_istore_n (pc := 26) (lv' := [(2, .int (zI (x + 1))), (0, .ref (am 0)), (1, .int (zI (c))), (3, .int (zI ((i : Int))))]) hx hb dX8_scenesOf_26 rfl hl (by decide) rfl (fun ls hl => ?_)
      refine zr_iinc (pc := 27) (d := ((i : Int)) + 1) (lv' := [(3, .int (zI (((i : Int)) + 1))), (2, .int (zI (x + 1))), (0, .ref (am 0)), (1, .int (zI (c)))]) hx hb dX8_scenesOf_27 hl (k := 3) rfl rfl (by decide) rfl (fun ls hl => ?_)
      refine lv_goto (pc := 30) (tgt := 4) hx hb dX8_scenesOf_30 (by decide) ?_
      exact ih_4 (i + 1) ((x + 1)) (⟨by omega, by rw [sm_s]; first | (rw [ti_t c_17]; omega) | (rw [ti_f (by omega)]; omega)⟩) (by omega) ls (lv_sub hl [2, 3, 1, 0] rfl)
set_option maxHeartbeats 4000000 in
set_option maxRecDepth 100000 in
theorem ct_X8_isHanded (l : Launch) (D : va_G) (cI cT : ClassId) (am : Nat → Nat) (μ : Nat → Int → Int) (g : Int → Int) (hg : μ 1 = g) (hI : Inv g) (sc : Int) (c : Int) (s0 : 0 ≤ sc) (s1 : sc < 11) (c0 : -1 ≤ c) (c1 : c ≤ 100) : zMr l yX8_isHanded wsX8_isHanded ({ frames := 2, cells := 0, slots := 0, locals := 46 }) D cI cT [.ref (am 0), .int (zI (sc)), .int (zI (c))] (fun _ H => zW D am 5 (mC cI am μ) H) (fun r => bz (hnd g sc c) r) := by
  refine Met.ofW (cc := cX8_isHanded) (maxL := 5) (ret := (some .boolean)) (by decide) rfl ?_
  intro p_ e_ s m_ args below meth c_ s₁ B hml hv
  obtain ⟨rfl, hK, hF⟩ := hv
  have hx := B.exec
  have hb := B.bytes
  have hr := B.returns
  have hts := atoms_spec (ws := wsX8_isHanded) B.pre
  have hown : s.vm.findClass RX8 = some m_.cls := findClass_of_methodNamed B.named
  have hlocks := B.notSynchronized
  have S : CallFix p_ m_ c_ cX8_isHanded 5 s _ wsX8_isHanded RX8 := ⟨hx, hb, hml, hown, hts⟩
  have i_X8 : ∀ w ∈ u_ws RX8 TX8 12, w ∈ wsX8_isHanded := fun _ h => List.mem_cons_of_mem _ (List.mem_append_right _ h)
  have hP := hF
  have hnC := iv_nC hI
  have hnA := iv_nA hI
  have hl := lv_entry ([.ref (am 0), .int (zI (sc)), .int (zI (c))]) (n := 5) (Nat.le_of_ble_eq_true rfl)
  rw [lg_entry_eq]
  generalize (lg_sl ([.ref (am 0), .int (zI (sc)), .int (zI (c))]) ++ List.replicate (5 - (lg_sl ([.ref (am 0), .int (zI (sc)), .int (zI (c))])).length) Slot.unset).toArray = ls at hl ⊢
  have hl : lv_has ls 5 [(0, .ref (am 0)), (1, .int (zI (sc))), (2, .int (zI (c)))] := hl
  refine lv_iconst (pc := 0) (v := zI 0) hx hb dX8_isHanded_0 rfl ?_
  refine lv_istore_n (pc := 1) (lv' := [(3, .int (zI (0))), (0, .ref (am 0)), (1, .int (zI (sc))), (2, .int (zI (c)))]) hx hb dX8_isHanded_1 rfl hl (by decide) rfl (fun ls hl => ?_)
  refine lv_iconst (pc := 2) (v := zI 0) hx hb dX8_isHanded_2 rfl ?_
  refine lv_istore (pc := 3) (lv' := [(4, .int (zI (0))), (3, .int (zI (0))), (0, .ref (am 0)), (1, .int (zI (sc))), (2, .int (zI (c)))]) hx hb dX8_isHanded_3 hl (by decide) rfl (fun ls hl => ?_)
  refine zr_loop2 (fun (i : Nat) (x : Int) => ((i : Int) ≤ g 1) ∧ ((x = 0 ∧ ∀ b : Int, 0 ≤ b → b < (i : Int) → ¬ (gW g (sc + 1) b = c ∧ gW g sc b ≠ c)) ∨ (x = 1 ∧ ∃ b : Int, 0 ≤ b ∧ b < (i : Int) ∧ gW g (sc + 1) b = c ∧ gW g sc b ≠ c))) (fun (i : Nat) (x : Int) => (g 1 : Int).toNat - i) (fun (i : Nat) (x : Int) => [(0, .ref (am 0)), (1, .int (zI (sc))), (2, .int (zI (c))), (3, .int (zI (x))), (4, .int (zI ((i : Int))))]) ?_ (0) (0) (⟨by omega, Or.inl ⟨rfl, fa_0⟩⟩) (lv_sub hl [2, 3, 4, 1, 0] rfl)
  intro i x hinv ih_5 ls hl
  obtain ⟨h_i, h_b⟩ := hinv
  refine lv_iload (pc := 5) hx hb dX8_isHanded_5 (lv_at hl 4 rfl) ?_
  refine lv_aload_n (pc := 7) hx hb dX8_isHanded_7 rfl (lv_at hl 0 rfl) ?_
  refine zr_get (pc := 8) S hK (hP 0 (by decide)) rfl i_X8 1 (by decide) (List.mem_of_getElem? (i := 1) rfl) rfl dX8_isHanded_8 ?_
  refine lv_iconst (pc := 11) (v := zI 1) hx hb dX8_isHanded_11 rfl ?_
  refine zr_ald (pc := 12) (n := 572) hx hb (zAr_of (zK_int hK) (hP 1 (by decide))) (by decide) (by decide) (by decide) dX8_isHanded_12 ?_
  refine zr_top (b := g 1) (congrFun hg _) ?_
  refine zr_icmp_ge (pc := 13) (tgt := 56) hx hb dX8_isHanded_13 (by decide) (by omega) (by omega) (fun c_13 => ?_) (fun c_13 => ?_)
  · refine lv_iload_n (pc := 56) hx hb dX8_isHanded_56 rfl (lv_at hl 3 rfl) ?_
    refine zr_if_eq (pc := 57) (tgt := 73) hx hb dX8_isHanded_57 (by decide) (by omega) (fun c_57 => ?_) (fun c_57 => ?_)
    · refine lv_iconst (pc := 73) (v := zI 0) hx hb dX8_isHanded_73 rfl ?_
      exact W.zret (ty := .boolean) (v := zI (0)) hx hb hr (by first | rfl | decide) (fun tz ht hW => ⟨_, rfl, bz_f (fun h => by first | (have := h.2; omega) | (obtain ⟨⟨b, b0, b1, b2, b3⟩, _⟩ := h; exact h_b.elim (fun z => z.2 b b0 (by omega) ⟨b2, b3⟩) (fun z => by omega))), ht⟩) (fun _ h => by cases h) dX8_isHanded_74
    · refine lv_aload_n (pc := 60) hx hb dX8_isHanded_60 rfl (lv_at hl 0 rfl) ?_
      refine lv_iload_n (pc := 61) hx hb dX8_isHanded_61 rfl (lv_at hl 1 rfl) ?_
      refine lv_iload_n (pc := 62) hx hb dX8_isHanded_62 rfl (lv_at hl 2 rfl) ?_
      refine zr_vi (pc := 63) (As := [.int (zI (sc)), .int (zI (c))]) (rest := []) S (ct_X8_wearers l D cI cT am μ g hg hI sc c (by omega) (by omega) (by omega) (by omega)) (cwV 2 hts gX8_isHanded_X8_wearers rfl rfl rfl (by decide +kernel) ⟨Nat.le_of_ble_eq_true rfl, Nat.le_of_ble_eq_true rfl⟩) zs0 hK hP (zr_recv hK (hP 0 (by decide)) rfl) rfl hl.1 rfl (Nat.le_of_ble_eq_true rfl) dX8_isHanded_63 ⟨Nat.le_of_ble_eq_true rfl, Nat.le_of_ble_eq_true rfl⟩ (fun r_63 hr_63 => ?_)
      subst hr_63
      have hw_63 := wrs_bd hI (sc) (c)
      refine zr_if_le (pc := 66) (tgt := 73) hx hb dX8_isHanded_66 (by decide) (by omega) (fun c_66 => ?_) (fun c_66 => ?_)
      · refine lv_iconst (pc := 73) (v := zI 0) hx hb dX8_isHanded_73 rfl ?_
        exact W.zret (ty := .boolean) (v := zI (0)) hx hb hr (by first | rfl | decide) (fun tz ht hW => ⟨_, rfl, bz_f (fun h => by first | (have := h.2; omega) | (obtain ⟨⟨b, b0, b1, b2, b3⟩, _⟩ := h; exact h_b.elim (fun z => z.2 b b0 (by omega) ⟨b2, b3⟩) (fun z => by omega))), ht⟩) (fun _ h => by cases h) dX8_isHanded_74
      · refine lv_iconst (pc := 69) (v := zI 1) hx hb dX8_isHanded_69 rfl ?_
        refine lv_goto (pc := 70) (tgt := 74) hx hb dX8_isHanded_70 (by decide) ?_
        exact W.zret (ty := .boolean) (v := zI (1)) hx hb hr (by first | rfl | decide) (fun tz ht hW => ⟨_, rfl, bz_t ⟨(h_b.resolve_left (fun z => c_57 z.1)).2.imp (fun b q => ⟨q.1, by omega, q.2.2⟩), by omega⟩, ht⟩) (fun _ h => by cases h) dX8_isHanded_74
  · refine lv_iload_n (pc := 16) hx hb dX8_isHanded_16 rfl (lv_at hl 3 rfl) ?_
    refine zr_if_ne (pc := 17) (tgt := 44) hx hb dX8_isHanded_17 (by decide) (by omega) (fun c_17 => ?_) (fun c_17 => ?_)
    · refine lv_iconst (pc := 44) (v := zI 1) hx hb dX8_isHanded_44 rfl ?_
      refine lv_goto (pc := 45) (tgt := 49) hx hb dX8_isHanded_45 (by decide) ?_
      refine lv_istore_n (pc := 49) (lv' := [(3, .int (zI (1))), (0, .ref (am 0)), (1, .int (zI (sc))), (2, .int (zI (c))), (4, .int (zI ((i : Int))))]) hx hb dX8_isHanded_49 rfl hl (by decide) rfl (fun ls hl => ?_)
      refine zr_iinc (pc := 50) (d := ((i : Int)) + 1) (lv' := [(4, .int (zI (((i : Int)) + 1))), (3, .int (zI (1))), (0, .ref (am 0)), (1, .int (zI (sc))), (2, .int (zI (c)))]) hx hb dX8_isHanded_50 hl (k := 4) rfl rfl (by decide) rfl (fun ls hl => ?_)
      refine lv_goto (pc := 53) (tgt := 5) hx hb dX8_isHanded_53 (by decide) ?_
      exact ih_5 (i + 1) (1) (⟨by omega, by first | exact Or.inr ⟨rfl, (h_b.resolve_left (fun z => c_17 z.1)).2.imp (fun b q => ⟨q.1, by omega, q.2.2⟩)⟩ | exact Or.inr ⟨rfl, i, by omega, by omega, c_30, c_41⟩ | exact Or.inl ⟨rfl, fa_s (h_b.resolve_right (fun z => by omega)).2 (fun q => by first | exact c_30 q.1 | exact q.2 c_41)⟩⟩) (by omega) ls (lv_sub hl [2, 3, 4, 1, 0] rfl)
    · refine lv_aload_n (pc := 20) hx hb dX8_isHanded_20 rfl (lv_at hl 0 rfl) ?_
      have hwo1 := iv_wo hI (a := (i : Int)) (sc := sc + 1) (by omega) (by omega) (by omega) (by omega)
      have hwo2 := iv_wo hI (a := (i : Int)) (sc := sc) (by omega) (by omega) (by omega) (by omega)
      refine lv_iload_n (pc := 21) hx hb dX8_isHanded_21 rfl (lv_at hl 1 rfl) ?_
      refine lv_iconst (pc := 22) (v := zI 1) hx hb dX8_isHanded_22 rfl ?_
      refine zr_iadd (pc := 23) (d := sc + 1) hx hb dX8_isHanded_23 rfl ?_
      refine lv_iload (pc := 24) hx hb dX8_isHanded_24 (lv_at hl 4 rfl) ?_
      refine zr_vi (pc := 26) (As := [.int (zI (sc + 1)), .int (zI ((i : Int)))]) (rest := []) S (ct_X8_worn l D cI cT am μ g hg hI (sc + 1) ((i : Int)) (by omega) (by omega) (by omega) (by omega)) (cwV 2 hts gX8_isHanded_X8_worn rfl rfl rfl (by decide +kernel) ⟨Nat.le_of_ble_eq_true rfl, Nat.le_of_ble_eq_true rfl⟩) zs0 hK hP (zr_recv hK (hP 0 (by decide)) rfl) rfl hl.1 rfl (Nat.le_of_ble_eq_true rfl) dX8_isHanded_26 ⟨Nat.le_of_ble_eq_true rfl, Nat.le_of_ble_eq_true rfl⟩ (fun r_26 hr_26 => ?_)
      subst hr_26
      refine lv_iload_n (pc := 29) hx hb dX8_isHanded_29 rfl (lv_at hl 2 rfl) ?_
      refine zr_icmp_ne (pc := 30) (tgt := 48) hx hb dX8_isHanded_30 (by decide) (by omega) (by omega) (fun c_30 => ?_) (fun c_30 => ?_)
      · refine lv_iconst (pc := 48) (v := zI 0) hx hb dX8_isHanded_48 rfl ?_
        refine lv_istore_n (pc := 49) (lv' := [(3, .int (zI (0))), (0, .ref (am 0)), (1, .int (zI (sc))), (2, .int (zI (c))), (4, .int (zI ((i : Int))))]) hx hb dX8_isHanded_49 rfl hl (by decide) rfl (fun ls hl => ?_)
        refine zr_iinc (pc := 50) (d := ((i : Int)) + 1) (lv' := [(4, .int (zI (((i : Int)) + 1))), (3, .int (zI (0))), (0, .ref (am 0)), (1, .int (zI (sc))), (2, .int (zI (c)))]) hx hb dX8_isHanded_50 hl (k := 4) rfl rfl (by decide) rfl (fun ls hl => ?_)
        refine lv_goto (pc := 53) (tgt := 5) hx hb dX8_isHanded_53 (by decide) ?_
        exact ih_5 (i + 1) (0) (⟨by omega, by first | exact Or.inr ⟨rfl, (h_b.resolve_left (fun z => c_17 z.1)).2.imp (fun b q => ⟨q.1, by omega, q.2.2⟩)⟩ | exact Or.inr ⟨rfl, i, by omega, by omega, c_30, c_41⟩ | exact Or.inl ⟨rfl, fa_s (h_b.resolve_right (fun z => by omega)).2 (fun q => by first | exact c_30 q.1 | exact q.2 c_41)⟩⟩) (by omega) ls (lv_sub hl [2, 3, 4, 1, 0] rfl)
      · refine lv_aload_n (pc := 33) hx hb dX8_isHanded_33 rfl (lv_at hl 0 rfl) ?_
        refine lv_iload_n (pc := 34) hx hb dX8_isHanded_34 rfl (lv_at hl 1 rfl) ?_
        refine lv_iload (pc := 35) hx hb dX8_isHanded_35 (lv_at hl 4 rfl) ?_
        refine zr_vi (pc := 37) (As := [.int (zI (sc)), .int (zI ((i : Int)))]) (rest := []) S (ct_X8_worn l D cI cT am μ g hg hI sc ((i : Int)) (by omega) (by omega) (by omega) (by omega)) (cwV 2 hts gX8_isHanded_X8_worn rfl rfl rfl (by decide +kernel) ⟨Nat.le_of_ble_eq_true rfl, Nat.le_of_ble_eq_true rfl⟩) zs0 hK hP (zr_recv hK (hP 0 (by decide)) rfl) rfl hl.1 rfl (Nat.le_of_ble_eq_true rfl) dX8_isHanded_37 ⟨Nat.le_of_ble_eq_true rfl, Nat.le_of_ble_eq_true rfl⟩ (fun r_37 hr_37 => ?_)
        subst hr_37
        refine lv_iload_n (pc := 40) hx hb dX8_isHanded_40 rfl (lv_at hl 2 rfl) ?_
        refine zr_icmp_eq (pc := 41) (tgt := 48) hx hb dX8_isHanded_41 (by decide) (by omega) (by omega) (fun c_41 => ?_) (fun c_41 => ?_)
        · refine lv_iconst (pc := 48) (v := zI 0) hx hb dX8_isHanded_48 rfl ?_
          refine lv_istore_n (pc := 49) (lv' := [(3, .int (zI (0))), (0, .ref (am 0)), (1, .int (zI (sc))), (2, .int (zI (c))), (4, .int (zI ((i : Int))))]) hx hb dX8_isHanded_49 rfl hl (by decide) rfl (fun ls hl => ?_)
          refine zr_iinc (pc := 50) (d := ((i : Int)) + 1) (lv' := [(4, .int (zI (((i : Int)) + 1))), (3, .int (zI (0))), (0, .ref (am 0)), (1, .int (zI (sc))), (2, .int (zI (c)))]) hx hb dX8_isHanded_50 hl (k := 4) rfl rfl (by decide) rfl (fun ls hl => ?_)
          refine lv_goto (pc := 53) (tgt := 5) hx hb dX8_isHanded_53 (by decide) ?_
          exact ih_5 (i + 1) (0) (⟨by omega, by first | exact Or.inr ⟨rfl, (h_b.resolve_left (fun z => c_17 z.1)).2.imp (fun b q => ⟨q.1, by omega, q.2.2⟩)⟩ | exact Or.inr ⟨rfl, i, by omega, by omega, c_30, c_41⟩ | exact Or.inl ⟨rfl, fa_s (h_b.resolve_right (fun z => by omega)).2 (fun q => by first | exact c_30 q.1 | exact q.2 c_41)⟩⟩) (by omega) ls (lv_sub hl [2, 3, 4, 1, 0] rfl)
        · refine lv_iconst (pc := 44) (v := zI 1) hx hb dX8_isHanded_44 rfl ?_
          refine lv_goto (pc := 45) (tgt := 49) hx hb dX8_isHanded_45 (by decide) ?_
          refine lv_istore_n (pc := 49) (lv' := [(3, .int (zI (1))), (0, .ref (am 0)), (1, .int (zI (sc))), (2, .int (zI (c))), (4, .int (zI ((i : Int))))]) hx hb dX8_isHanded_49 rfl hl (by decide) rfl (fun ls hl => ?_)
          refine zr_iinc (pc := 50) (d := ((i : Int)) + 1) (lv' := [(4, .int (zI (((i : Int)) + 1))), (3, .int (zI (1))), (0, .ref (am 0)), (1, .int (zI (sc))), (2, .int (zI (c)))]) hx hb dX8_isHanded_50 hl (k := 4) rfl rfl (by decide) rfl (fun ls hl => ?_)
          refine lv_goto (pc := 53) (tgt := 5) hx hb dX8_isHanded_53 (by decide) ?_
          exact ih_5 (i + 1) (1) (⟨by omega, by first | exact Or.inr ⟨rfl, (h_b.resolve_left (fun z => c_17 z.1)).2.imp (fun b q => ⟨q.1, by omega, q.2.2⟩)⟩ | exact Or.inr ⟨rfl, i, by omega, by omega, c_30, c_41⟩ | exact Or.inl ⟨rfl, fa_s (h_b.resolve_right (fun z => by omega)).2 (fun q => by first | exact c_30 q.1 | exact q.2 c_41)⟩⟩) (by omega) ls (lv_sub hl [2, 3, 4, 1, 0] rfl)
