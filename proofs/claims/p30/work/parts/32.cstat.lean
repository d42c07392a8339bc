set_option maxHeartbeats 4000000 in
set_option maxRecDepth 100000 in
theorem ct_X7_areMeasures (l : Launch) (D : va_G) (cI cT : ClassId) (a : Int) (b : Int) (d : Int) (r_a : -2147483648 ≤ a ∧ a ≤ 2147483647) (r_b : -2147483648 ≤ b ∧ b ≤ 2147483647) (r_d : -2147483648 ≤ d ∧ d ≤ 2147483647) : zMr l yX7_areMeasures wsX7_areMeasures ({ frames := 1, cells := 0, slots := 0, locals := 22 }) D cI cT [.int (zI (a)), .int (zI (b)), .int (zI (d))] (fun _ _ => True) (fun r => bz ((40 ≤ a ∧ a ≤ 200) ∧ (40 ≤ b ∧ b ≤ 200) ∧ 40 ≤ d ∧ d ≤ 200) r) := by
  refine Met.ofW (cc := cX7_areMeasures) (maxL := 3) (ret := (some .boolean)) (by decide) rfl ?_
  intro p_ e_ s m_ args below meth c_ s₁ B hml hv
  obtain ⟨rfl, hK, hF⟩ := hv
  have hx := B.exec
  have hb := B.bytes
  have hr := B.returns
  have hts := atoms_spec (ws := wsX7_areMeasures) B.pre
  have hown : s.vm.findClass RX7 = some m_.cls := findClass_of_methodNamed B.named
  have hlocks := B.notSynchronized
  have S : CallFix p_ m_ c_ cX7_areMeasures 3 s _ wsX7_areMeasures RX7 := ⟨hx, hb, hml, hown, hts⟩
  have hl := lv_entry ([.int (zI (a)), .int (zI (b)), .int (zI (d))]) (n := 3) (Nat.le_of_ble_eq_true rfl)
  rw [lg_entry_eq]
  generalize (lg_sl ([.int (zI (a)), .int (zI (b)), .int (zI (d))]) ++ List.replicate (3 - (lg_sl ([.int (zI (a)), .int (zI (b)), .int (zI (d))])).length) Slot.unset).toArray = ls at hl ⊢
  have hl : lv_has ls 3 [(0, .int (zI (a))), (1, .int (zI (b))), (2, .int (zI (d)))] := hl
  refine lv_iload_n (pc := 0) hx hb dX7_areMeasures_0 rfl (lv_at hl 0 rfl) ?_
  refine lv_bipush (pc := 1) (v := zI 40) hx hb dX7_areMeasures_1 zc_bipush_40 ?_
  refine lv_sipush (pc := 3) (v := zI 200) hx hb dX7_areMeasures_3 zc_sipush_200 ?_
  refine zr_si (pc := 6) (As := [.int (zI (a)), .int (zI (40)), .int (zI (200))]) (rest := []) S (ct_X7_isWithin l D cI cT a 40 200 (by omega) (by decide) (by decide)) (va_cwS 3 hts gX7_areMeasures_X7_isWithin rfl rfl rfl (by decide +kernel) ⟨Nat.le_of_ble_eq_true rfl, Nat.le_of_ble_eq_true rfl⟩) zs0 hK trivial rfl hl.1 rfl (Nat.le_of_ble_eq_true rfl) dX7_areMeasures_6 ⟨Nat.le_of_ble_eq_true rfl, Nat.le_of_ble_eq_true rfl⟩ (fun r_6 hr_6 => ?_)
  rcases hr_6 with ⟨hb_6, rfl⟩ | ⟨hb_6, rfl⟩
  · refine zr_if_eq (pc := 9) (tgt := 40) hx hb dX7_areMeasures_9 (by decide) (by decide) (fun z => absurd z (by decide)) (fun _ => ?_)
    refine lv_iload_n (pc := 12) hx hb dX7_areMeasures_12 rfl (lv_at hl 1 rfl) ?_
    refine lv_bipush (pc := 13) (v := zI 40) hx hb dX7_areMeasures_13 zc_bipush_40 ?_
    refine lv_sipush (pc := 15) (v := zI 200) hx hb dX7_areMeasures_15 zc_sipush_200 ?_
    refine zr_si (pc := 18) (As := [.int (zI (b)), .int (zI (40)), .int (zI (200))]) (rest := []) S (ct_X7_isWithin l D cI cT b 40 200 (by omega) (by decide) (by decide)) (va_cwS 3 hts gX7_areMeasures_X7_isWithin rfl rfl rfl (by decide +kernel) ⟨Nat.le_of_ble_eq_true rfl, Nat.le_of_ble_eq_true rfl⟩) zs0 hK trivial rfl hl.1 rfl (Nat.le_of_ble_eq_true rfl) dX7_areMeasures_18 ⟨Nat.le_of_ble_eq_true rfl, Nat.le_of_ble_eq_true rfl⟩ (fun r_18 hr_18 => ?_)
    rcases hr_18 with ⟨hb_18, rfl⟩ | ⟨hb_18, rfl⟩
    · refine zr_if_eq (pc := 21) (tgt := 40) hx hb dX7_areMeasures_21 (by decide) (by decide) (fun z => absurd z (by decide)) (fun _ => ?_)
      refine lv_iload_n (pc := 24) hx hb dX7_areMeasures_24 rfl (lv_at hl 2 rfl) ?_
      refine lv_bipush (pc := 25) (v := zI 40) hx hb dX7_areMeasures_25 zc_bipush_40 ?_
      refine lv_sipush (pc := 27) (v := zI 200) hx hb dX7_areMeasures_27 zc_sipush_200 ?_
      refine zr_si (pc := 30) (As := [.int (zI (d)), .int (zI (40)), .int (zI (200))]) (rest := []) S (ct_X7_isWithin l D cI cT d 40 200 (by omega) (by decide) (by decide)) (va_cwS 3 hts gX7_areMeasures_X7_isWithin rfl rfl rfl (by decide +kernel) ⟨Nat.le_of_ble_eq_true rfl, Nat.le_of_ble_eq_true rfl⟩) zs0 hK trivial rfl hl.1 rfl (Nat.le_of_ble_eq_true rfl) dX7_areMeasures_30 ⟨Nat.le_of_ble_eq_true rfl, Nat.le_of_ble_eq_true rfl⟩ (fun r_30 hr_30 => ?_)
      rcases hr_30 with ⟨hb_30, rfl⟩ | ⟨hb_30, rfl⟩
      · refine zr_if_eq (pc := 33) (tgt := 40) hx hb dX7_areMeasures_33 (by decide) (by decide) (fun z => absurd z (by decide)) (fun _ => ?_)
        refine lv_iconst (pc := 36) (v := zI 1) hx hb dX7_areMeasures_36 rfl ?_
        refine lv_goto (pc := 37) (tgt := 41) hx hb dX7_areMeasures_37 (by decide) ?_
        exact W.zret (ty := .boolean) (v := zI (1)) hx hb hr (by first | rfl | decide) (fun tz ht hW => ⟨_, rfl, bz_t (by omega), ht⟩) (fun _ h => by cases h) dX7_areMeasures_41
      · refine zr_if_eq (pc := 33) (tgt := 40) hx hb dX7_areMeasures_33 (by decide) (by decide) (fun _ => ?_) (fun z => absurd z (by decide))
        refine lv_iconst (pc := 40) (v := zI 0) hx hb dX7_areMeasures_40 rfl ?_
        exact W.zret (ty := .boolean) (v := zI (0)) hx hb hr (by first | rfl | decide) (fun tz ht hW => ⟨_, rfl, bz_f (by omega), ht⟩) (fun _ h => by cases h) dX7_areMeasures_41
    · refine zr_if_eq (pc := 21) (tgt := 40) hx hb dX7_areMeasures_21 (by decide) (by decide) (fun _ => ?_) (fun z => absurd z (by decide))
      refine lv_iconst (pc := 40) (v := zI 0) hx hb dX7_areMeasures_40 rfl ?_
      exact W.zret (ty := .boolean) (v := zI (0)) hx hb hr (by first | rfl | decide) (fun tz ht hW => ⟨_, rfl, bz_f (by omega), ht⟩) (fun _ h => by cases h) dX7_areMeasures_41
  · refine zr_if_eq (pc := 9) (tgt := 40) hx hb dX7_areMeasures_9 (by decide) (by decide) (fun _ => ?_) (fun z => absurd z (by decide))
    refine lv_iconst (pc := 40) (v := zI 0) hx hb dX7_areMeasures_40 rfl ?_
    exact W.zret (ty := .boolean) (v := zI (0)) hx hb hr (by first | rfl | decide) (fun tz ht hW => ⟨_, rfl, bz_f (by omega), ht⟩) (fun _ h => by cases h) dX7_areMeasures_41
set_option maxHeartbeats 4000000 in
set_option maxRecDepth 100000 in
theorem ct_X7_isSetting (l : Launch) (D : va_G) (cI cT : ClassId) (i : Int) (v : Int) (r_i : -2147483648 ≤ i ∧ i ≤ 2147483647) (r_v : -2147483648 ≤ v ∧ v ≤ 2147483647) : zMr l yX7_isSetting wsX7_isSetting ({ frames := 1, cells := 0, slots := 0, locals := 22 }) D cI cT [.int (zI (i)), .int (zI (v))] (fun _ _ => True) (fun r => bz ((i = 3 ∧ 1 ≤ v ∧ v ≤ 9) ∨ (i ≠ 3 ∧ 0 ≤ v ∧ v ≤ 20)) r) := by
  refine Met.ofW (cc := cX7_isSetting) (maxL := 2) (ret := (some .boolean)) (by decide) rfl ?_
  intro p_ e_ s m_ args below meth c_ s₁ B hml hv
  obtain ⟨rfl, hK, hF⟩ := hv
  have hx := B.exec
  have hb := B.bytes
  have hr := B.returns
  have hts := atoms_spec (ws := wsX7_isSetting) B.pre
  have hown : s.vm.findClass RX7 = some m_.cls := findClass_of_methodNamed B.named
  have hlocks := B.notSynchronized
  have S : CallFix p_ m_ c_ cX7_isSetting 2 s _ wsX7_isSetting RX7 := ⟨hx, hb, hml, hown, hts⟩
  have hl := lv_entry ([.int (zI (i)), .int (zI (v))]) (n := 2) (Nat.le_of_ble_eq_true rfl)
  rw [lg_entry_eq]
  generalize (lg_sl ([.int (zI (i)), .int (zI (v))]) ++ List.replicate (2 - (lg_sl ([.int (zI (i)), .int (zI (v))])).length) Slot.unset).toArray = ls at hl ⊢
  have hl : lv_has ls 2 [(0, .int (zI (i))), (1, .int (zI (v)))] := hl
  refine lv_iload_n (pc := 0) hx hb dX7_isSetting_0 rfl (lv_at hl 0 rfl) ?_
  refine lv_iconst (pc := 1) (v := zI 3) hx hb dX7_isSetting_1 rfl ?_
  refine zr_icmp_ne (pc := 2) (tgt := 15) hx hb dX7_isSetting_2 (by decide) (by omega) (by decide) (fun c_2 => ?_) (fun c_2 => ?_)
  · refine lv_iload_n (pc := 15) hx hb dX7_isSetting_15 rfl (lv_at hl 1 rfl) ?_
    refine lv_iconst (pc := 16) (v := zI 0) hx hb dX7_isSetting_16 rfl ?_
    refine lv_bipush (pc := 17) (v := zI 20) hx hb dX7_isSetting_17 zc_bipush_20 ?_
    refine zr_si (pc := 19) (As := [.int (zI (v)), .int (zI (0)), .int (zI (20))]) (rest := []) S (ct_X7_isWithin l D cI cT v 0 20 (by omega) (by decide) (by decide)) (va_cwS 3 hts gX7_isSetting_X7_isWithin rfl rfl rfl (by decide +kernel) ⟨Nat.le_of_ble_eq_true rfl, Nat.le_of_ble_eq_true rfl⟩) zs0 hK trivial rfl hl.1 rfl (Nat.le_of_ble_eq_true rfl) dX7_isSetting_19 ⟨Nat.le_of_ble_eq_true rfl, Nat.le_of_ble_eq_true rfl⟩ (fun r_19 hr_19 => ?_)
    rcases hr_19 with ⟨hb_19, rfl⟩ | ⟨hb_19, rfl⟩
    · exact W.zret (ty := .boolean) (v := zI (1)) hx hb hr (by first | rfl | decide) (fun tz ht hW => ⟨_, rfl, bz_t (by omega), ht⟩) (fun _ h => by cases h) dX7_isSetting_22
    · exact W.zret (ty := .boolean) (v := zI (0)) hx hb hr (by first | rfl | decide) (fun tz ht hW => ⟨_, rfl, bz_f (by omega), ht⟩) (fun _ h => by cases h) dX7_isSetting_22
  · refine lv_iload_n (pc := 5) hx hb dX7_isSetting_5 rfl (lv_at hl 1 rfl) ?_
    refine lv_iconst (pc := 6) (v := zI 1) hx hb dX7_isSetting_6 rfl ?_
    refine lv_bipush (pc := 7) (v := zI 9) hx hb dX7_isSetting_7 zc_bipush_9 ?_
    refine zr_si (pc := 9) (As := [.int (zI (v)), .int (zI (1)), .int (zI (9))]) (rest := []) S (ct_X7_isWithin l D cI cT v 1 9 (by omega) (by decide) (by decide)) (va_cwS 3 hts gX7_isSetting_X7_isWithin rfl rfl rfl (by decide +kernel) ⟨Nat.le_of_ble_eq_true rfl, Nat.le_of_ble_eq_true rfl⟩) zs0 hK trivial rfl hl.1 rfl (Nat.le_of_ble_eq_true rfl) dX7_isSetting_9 ⟨Nat.le_of_ble_eq_true rfl, Nat.le_of_ble_eq_true rfl⟩ (fun r_9 hr_9 => ?_)
    rcases hr_9 with ⟨hb_9, rfl⟩ | ⟨hb_9, rfl⟩
    · refine lv_goto (pc := 12) (tgt := 22) hx hb dX7_isSetting_12 (by decide) ?_
      exact W.zret (ty := .boolean) (v := zI (1)) hx hb hr (by first | rfl | decide) (fun tz ht hW => ⟨_, rfl, bz_t (by omega), ht⟩) (fun _ h => by cases h) dX7_isSetting_22
    · refine lv_goto (pc := 12) (tgt := 22) hx hb dX7_isSetting_12 (by decide) ?_
      exact W.zret (ty := .boolean) (v := zI (0)) hx hb hr (by first | rfl | decide) (fun tz ht hW => ⟨_, rfl, bz_f (by omega), ht⟩) (fun _ h => by cases h) dX7_isSetting_22
set_option maxHeartbeats 4000000 in
set_option maxRecDepth 100000 in
theorem ct_X7_isProgram (l : Launch) (D : va_G) (cI cT : ClassId) (p : Int) (r_p : -2147483648 ≤ p ∧ p ≤ 2147483647) : zMr l yX7_isProgram wsX7_isProgram ({ frames := 1, cells := 0, slots := 0, locals := 22 }) D cI cT [.int (zI (p))] (fun _ _ => True) (fun r => bz (0 ≤ p ∧ p ≤ 3) r) := by
  refine Met.ofW (cc := cX7_isProgram) (maxL := 1) (ret := (some .boolean)) (by decide) rfl ?_
  intro p_ e_ s m_ args below meth c_ s₁ B hml hv
  obtain ⟨rfl, hK, hF⟩ := hv
  have hx := B.exec
  have hb := B.bytes
  have hr := B.returns
  have hts := atoms_spec (ws := wsX7_isProgram) B.pre
  have hown : s.vm.findClass RX7 = some m_.cls := findClass_of_methodNamed B.named
  have hlocks := B.notSynchronized
  have S : CallFix p_ m_ c_ cX7_isProgram 1 s _ wsX7_isProgram RX7 := ⟨hx, hb, hml, hown, hts⟩
  have hl := lv_entry ([.int (zI (p))]) (n := 1) (Nat.le_of_ble_eq_true rfl)
  rw [lg_entry_eq]
  generalize (lg_sl ([.int (zI (p))]) ++ List.replicate (1 - (lg_sl ([.int (zI (p))])).length) Slot.unset).toArray = ls at hl ⊢
  have hl : lv_has ls 1 [(0, .int (zI (p)))] := hl
  refine lv_iload_n (pc := 0) hx hb dX7_isProgram_0 rfl (lv_at hl 0 rfl) ?_
  refine lv_iconst (pc := 1) (v := zI 0) hx hb dX7_isProgram_1 rfl ?_
  refine lv_iconst (pc := 2) (v := zI 3) hx hb dX7_isProgram_2 rfl ?_
  refine zr_si (pc := 3) (As := [.int (zI (p)), .int (zI (0)), .int (zI (3))]) (rest := []) S (ct_X7_isWithin l D cI cT p 0 3 (by omega) (by decide) (by decide)) (va_cwS 3 hts gX7_isProgram_X7_isWithin rfl rfl rfl (by decide +kernel) ⟨Nat.le_of_ble_eq_true rfl, Nat.le_of_ble_eq_true rfl⟩) zs0 hK trivial rfl hl.1 rfl (Nat.le_of_ble_eq_true rfl) dX7_isProgram_3 ⟨Nat.le_of_ble_eq_true rfl, Nat.le_of_ble_eq_true rfl⟩ (fun r_3 hr_3 => ?_)
  rcases hr_3 with ⟨hb_3, rfl⟩ | ⟨hb_3, rfl⟩
  · exact W.zret (ty := .boolean) (v := zI (1)) hx hb hr (by first | rfl | decide) (fun tz ht hW => ⟨_, rfl, bz_t (by omega), ht⟩) (fun _ h => by cases h) dX7_isProgram_6
  · exact W.zret (ty := .boolean) (v := zI (0)) hx hb hr (by first | rfl | decide) (fun tz ht hW => ⟨_, rfl, bz_f (by omega), ht⟩) (fun _ h => by cases h) dX7_isProgram_6
