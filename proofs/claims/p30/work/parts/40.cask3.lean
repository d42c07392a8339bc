set_option maxHeartbeats 4000000 in
set_option maxRecDepth 100000 in
theorem ct_X7_count (l : Launch) (D : va_G) (cI cT : ClassId) (ad : Nat → Nat) (σ : Nat → Int → Int) (g : Int → Int) (hR : Rel σ g) (hI : Inv g) (n m : Int) (tl : Int) (tx rd rp : Int → Int) (k : Int) (r_k : -2147483648 ≤ k ∧ k ≤ 2147483647) : zMr l yX7_count wsX7_count ({ frames := 5, cells := 0, slots := 0, locals := 109 }) D cI cT [.ref (ad 120), .int (zI (k))] (fun _ H => zW D ad 20 (sC cI ad σ) H ∧ hO1 D ad n m H ∧ cY D cI ad tl tx rd rp H) (fun r => r = zI (qCou g n tl k)) := by
  refine Met.ofW (cc := cX7_count) (maxL := 2) (ret := (some .int)) (by decide) rfl ?_
  intro p_ e_ s m_ args below meth c_ s₁ B hml hv
  obtain ⟨rfl, hK, hF⟩ := hv
  have hx := B.exec
  have hb := B.bytes
  have hr := B.returns
  have hts := atoms_spec (ws := wsX7_count) B.pre
  have hown : s.vm.findClass RX7 = some m_.cls := findClass_of_methodNamed B.named
  have hlocks := B.notSynchronized
  have S : CallFix p_ m_ c_ cX7_count 2 s _ wsX7_count RX7 := ⟨hx, hb, hml, hown, hts⟩
  have i_X7 : ∀ w ∈ u_ws RX7 TX7 4, w ∈ wsX7_count := fun _ h => List.mem_cons_of_mem _ (List.mem_append_left _ (List.mem_append_left _ (List.mem_append_left _ (List.mem_append_left _ (List.mem_append_left _ (List.mem_append_left _ (List.mem_append_right _ h)))))))
  have i_X4 : ∀ w ∈ u_ws RX4 TX4 9, w ∈ wsX7_count := fun _ h => List.mem_cons_of_mem _ (List.mem_append_left _ (List.mem_append_left _ (List.mem_append_left _ (List.mem_append_left _ (List.mem_append_left _ (List.mem_append_right _ h))))))
  have i_X6 : ∀ w ∈ u_ws RX6 TX6 9, w ∈ wsX7_count := fun _ h => List.mem_cons_of_mem _ (List.mem_append_left _ (List.mem_append_left _ (List.mem_append_left _ (List.mem_append_left _ (List.mem_append_right _ h)))))
  have i_X0 : ∀ w ∈ u_ws RX0 TX0 3, w ∈ wsX7_count := fun _ h => List.mem_cons_of_mem _ (List.mem_append_left _ (List.mem_append_left _ (List.mem_append_left _ (List.mem_append_right _ h))))
  have i_X1 : ∀ w ∈ u_ws RX1 TX1 6, w ∈ wsX7_count := fun _ h => List.mem_cons_of_mem _ (List.mem_append_left _ (List.mem_append_left _ (List.mem_append_right _ h)))
  have i_X2 : ∀ w ∈ u_ws RX2 TX2 3, w ∈ wsX7_count := fun _ h => List.mem_cons_of_mem _ (List.mem_append_left _ (List.mem_append_right _ h))
  have i_X5 : ∀ w ∈ u_ws RX5 TX5 2, w ∈ wsX7_count := fun _ h => List.mem_cons_of_mem _ (List.mem_append_right _ h)
  obtain ⟨hP, hH1, hY⟩ := hF
  have hnC := iv_nC hI
  have hnA := iv_nA hI
  have hl := lv_entry ([.ref (ad 120), .int (zI (k))]) (n := 2) (Nat.le_of_ble_eq_true rfl)
  rw [lg_entry_eq]
  generalize (lg_sl ([.ref (ad 120), .int (zI (k))]) ++ List.replicate (2 - (lg_sl ([.ref (ad 120), .int (zI (k))])).length) Slot.unset).toArray = ls at hl ⊢
  have hl : lv_has ls 2 [(0, .ref (ad 120)), (1, .int (zI (k)))] := hl
  refine lv_iload_n (pc := 0) hx hb dX7_count_0 rfl (lv_at hl 1 rfl) ?_
  have rg_1 : -2147483648 ≤ k ∧ k ≤ 2147483647 := (by omega)
  by_cases c_1 : k = 0
  · refine lv_tableIn (tgt := 64) (off := 63) hx hb dX7_count_1 (by rw [zi_toInt rg_1, c_1]; decide) (by rw [zi_toInt rg_1, c_1]; decide) (by rw [zi_toInt rg_1, c_1]; rfl) (by decide) ?_
    refine lv_aload_n (pc := 64) hx hb dX7_count_64 rfl (lv_at hl 0 rfl) ?_
    refine zr_get (pc := 65) S hK hY.1 rfl i_X7 0 (by decide) (List.mem_of_getElem? (i := 1) rfl) rfl dX7_count_65 ?_
    refine zr_get (pc := 68) S hK (hP 0 (by decide)) rfl i_X4 0 (by decide) (List.mem_of_getElem? (i := 2) rfl) rfl dX7_count_68 ?_
    refine zr_get (pc := 71) S hK (hP 1 (by decide)) rfl i_X6 0 (by decide) (List.mem_of_getElem? (i := 3) rfl) rfl dX7_count_71 ?_
    refine zr_top (b := g 0) (rl_nC hR) ?_
    exact W.iret (v := zI (g 0)) hx hb hr (fun tz ht hW => ⟨_, rfl, congrArg zI (Eq.symm (by unfold qCou; (repeat' split) <;> first | rfl | omega | (exact congrArg g (by omega)) | (exact congrArg g (show (8 : Int) + k - 12 = 8 + (k - 12) by omega)))), ht⟩) (fun _ h => by cases h) dX7_count_74
  have n0_1 := c_1
  by_cases c_1 : k = 1
  · refine lv_tableIn (tgt := 75) (off := 74) hx hb dX7_count_1 (by rw [zi_toInt rg_1, c_1]; decide) (by rw [zi_toInt rg_1, c_1]; decide) (by rw [zi_toInt rg_1, c_1]; rfl) (by decide) ?_
    refine lv_aload_n (pc := 75) hx hb dX7_count_75 rfl (lv_at hl 0 rfl) ?_
    refine zr_get (pc := 76) S hK hY.1 rfl i_X7 0 (by decide) (List.mem_of_getElem? (i := 1) rfl) rfl dX7_count_76 ?_
    refine zr_get (pc := 79) S hK (hP 0 (by decide)) rfl i_X4 1 (by decide) (List.mem_of_getElem? (i := 4) rfl) rfl dX7_count_79 ?_
    refine zr_get (pc := 82) S hK (hP 2 (by decide)) rfl i_X0 0 (by decide) (List.mem_of_getElem? (i := 5) rfl) rfl dX7_count_82 ?_
    refine zr_top (b := g 1) (rl_nA hR) ?_
    exact W.iret (v := zI (g 1)) hx hb hr (fun tz ht hW => ⟨_, rfl, congrArg zI (Eq.symm (by unfold qCou; (repeat' split) <;> first | rfl | omega | (exact congrArg g (by omega)) | (exact congrArg g (show (8 : Int) + k - 12 = 8 + (k - 12) by omega)))), ht⟩) (fun _ h => by cases h) dX7_count_85
  have n1_1 := c_1
  by_cases c_1 : k = 2
  · refine lv_tableIn (tgt := 86) (off := 85) hx hb dX7_count_1 (by rw [zi_toInt rg_1, c_1]; decide) (by rw [zi_toInt rg_1, c_1]; decide) (by rw [zi_toInt rg_1, c_1]; rfl) (by decide) ?_
    refine lv_aload_n (pc := 86) hx hb dX7_count_86 rfl (lv_at hl 0 rfl) ?_
    refine zr_get (pc := 87) S hK hY.1 rfl i_X7 0 (by decide) (List.mem_of_getElem? (i := 1) rfl) rfl dX7_count_87 ?_
    refine zr_get (pc := 90) S hK (hP 0 (by decide)) rfl i_X4 2 (by decide) (List.mem_of_getElem? (i := 6) rfl) rfl dX7_count_90 ?_
    refine zr_get (pc := 93) S hK (hP 3 (by decide)) rfl i_X1 0 (by decide) (List.mem_of_getElem? (i := 7) rfl) rfl dX7_count_93 ?_
    refine zr_top (b := g 2) (rl_nH hR) ?_
    exact W.iret (v := zI (g 2)) hx hb hr (fun tz ht hW => ⟨_, rfl, congrArg zI (Eq.symm (by unfold qCou; (repeat' split) <;> first | rfl | omega | (exact congrArg g (by omega)) | (exact congrArg g (show (8 : Int) + k - 12 = 8 + (k - 12) by omega)))), ht⟩) (fun _ h => by cases h) dX7_count_96
  have n2_1 := c_1
  by_cases c_1 : k = 3
  · refine lv_tableIn (tgt := 97) (off := 96) hx hb dX7_count_1 (by rw [zi_toInt rg_1, c_1]; decide) (by rw [zi_toInt rg_1, c_1]; decide) (by rw [zi_toInt rg_1, c_1]; rfl) (by decide) ?_
    refine lv_aload_n (pc := 97) hx hb dX7_count_97 rfl (lv_at hl 0 rfl) ?_
    refine zr_get (pc := 98) S hK hY.1 rfl i_X7 0 (by decide) (List.mem_of_getElem? (i := 1) rfl) rfl dX7_count_98 ?_
    refine zr_get (pc := 101) S hK (hP 0 (by decide)) rfl i_X4 4 (by decide) (List.mem_of_getElem? (i := 8) rfl) rfl dX7_count_101 ?_
    refine zr_top (b := g 3) (rl_to hR) ?_
    exact W.iret (v := zI (g 3)) hx hb hr (fun tz ht hW => ⟨_, rfl, congrArg zI (Eq.symm (by unfold qCou; (repeat' split) <;> first | rfl | omega | (exact congrArg g (by omega)) | (exact congrArg g (show (8 : Int) + k - 12 = 8 + (k - 12) by omega)))), ht⟩) (fun _ h => by cases h) dX7_count_104
  have n3_1 := c_1
  by_cases c_1 : k = 4
  · refine lv_tableIn (tgt := 105) (off := 104) hx hb dX7_count_1 (by rw [zi_toInt rg_1, c_1]; decide) (by rw [zi_toInt rg_1, c_1]; decide) (by rw [zi_toInt rg_1, c_1]; rfl) (by decide) ?_
    refine lv_aload_n (pc := 105) hx hb dX7_count_105 rfl (lv_at hl 0 rfl) ?_
    refine zr_get (pc := 106) S hK hY.1 rfl i_X7 0 (by decide) (List.mem_of_getElem? (i := 1) rfl) rfl dX7_count_106 ?_
    refine zr_get (pc := 109) S hK (hP 0 (by decide)) rfl i_X4 1 (by decide) (List.mem_of_getElem? (i := 4) rfl) rfl dX7_count_109 ?_
    refine zr_vi (pc := 112) (As := []) (rest := []) S (ct_X0_quickChanges l D cI cT ad σ g hR hI  ) (cwV 0 hts gX7_count_X0_quickChanges rfl rfl rfl (by decide +kernel) ⟨Nat.le_of_ble_eq_true rfl, Nat.le_of_ble_eq_true rfl⟩) zs0 hK hP (zr_recv hK (hP 2 (by decide)) rfl) rfl hl.1 rfl (Nat.le_of_ble_eq_true rfl) dX7_count_112 ⟨Nat.le_of_ble_eq_true rfl, Nat.le_of_ble_eq_true rfl⟩ (fun r_112 hr_112 => ?_)
    subst hr_112
    exact W.iret (v := zI (qcks g)) hx hb hr (fun tz ht hW => ⟨_, rfl, congrArg zI (Eq.symm (by unfold qCou; (repeat' split) <;> first | rfl | omega | (exact congrArg g (by omega)) | (exact congrArg g (show (8 : Int) + k - 12 = 8 + (k - 12) by omega)))), ht⟩) (fun _ h => by cases h) dX7_count_115
  have n4_1 := c_1
  by_cases c_1 : k = 5
  · refine lv_tableIn (tgt := 116) (off := 115) hx hb dX7_count_1 (by rw [zi_toInt rg_1, c_1]; decide) (by rw [zi_toInt rg_1, c_1]; decide) (by rw [zi_toInt rg_1, c_1]; rfl) (by decide) ?_
    refine lv_aload_n (pc := 116) hx hb dX7_count_116 rfl (lv_at hl 0 rfl) ?_
    refine zr_get (pc := 117) S hK hY.1 rfl i_X7 0 (by decide) (List.mem_of_getElem? (i := 1) rfl) rfl dX7_count_117 ?_
    refine zr_get (pc := 120) S hK (hP 0 (by decide)) rfl i_X4 5 (by decide) (List.mem_of_getElem? (i := 9) rfl) rfl dX7_count_120 ?_
    refine zr_top (b := g 4) (rl_mi hR) ?_
    exact W.iret (v := zI (g 4)) hx hb hr (fun tz ht hW => ⟨_, rfl, congrArg zI (Eq.symm (by unfold qCou; (repeat' split) <;> first | rfl | omega | (exact congrArg g (by omega)) | (exact congrArg g (show (8 : Int) + k - 12 = 8 + (k - 12) by omega)))), ht⟩) (fun _ h => by cases h) dX7_count_123
  have n5_1 := c_1
  by_cases c_1 : k = 6
  · refine lv_tableIn (tgt := 124) (off := 123) hx hb dX7_count_1 (by rw [zi_toInt rg_1, c_1]; decide) (by rw [zi_toInt rg_1, c_1]; decide) (by rw [zi_toInt rg_1, c_1]; rfl) (by decide) ?_
    refine lv_aload_n (pc := 124) hx hb dX7_count_124 rfl (lv_at hl 0 rfl) ?_
    refine zr_get (pc := 125) S hK hY.1 rfl i_X7 0 (by decide) (List.mem_of_getElem? (i := 1) rfl) rfl dX7_count_125 ?_
    refine zr_get (pc := 128) S hK (hP 0 (by decide)) rfl i_X4 6 (by decide) (List.mem_of_getElem? (i := 10) rfl) rfl dX7_count_128 ?_
    refine zr_top (b := g 5) (rl_fe hR) ?_
    exact W.iret (v := zI (g 5)) hx hb hr (fun tz ht hW => ⟨_, rfl, congrArg zI (Eq.symm (by unfold qCou; (repeat' split) <;> first | rfl | omega | (exact congrArg g (by omega)) | (exact congrArg g (show (8 : Int) + k - 12 = 8 + (k - 12) by omega)))), ht⟩) (fun _ h => by cases h) dX7_count_131
  have n6_1 := c_1
  by_cases c_1 : k = 7
  · refine lv_tableIn (tgt := 132) (off := 131) hx hb dX7_count_1 (by rw [zi_toInt rg_1, c_1]; decide) (by rw [zi_toInt rg_1, c_1]; decide) (by rw [zi_toInt rg_1, c_1]; rfl) (by decide) ?_
    refine lv_aload_n (pc := 132) hx hb dX7_count_132 rfl (lv_at hl 0 rfl) ?_
    refine zr_get (pc := 133) S hK hY.1 rfl i_X7 0 (by decide) (List.mem_of_getElem? (i := 1) rfl) rfl dX7_count_133 ?_
    refine zr_get (pc := 136) S hK (hP 0 (by decide)) rfl i_X4 7 (by decide) (List.mem_of_getElem? (i := 11) rfl) rfl dX7_count_136 ?_
    refine zr_top (b := g 6) (rl_ws hR) ?_
    exact W.iret (v := zI (g 6)) hx hb hr (fun tz ht hW => ⟨_, rfl, congrArg zI (Eq.symm (by unfold qCou; (repeat' split) <;> first | rfl | omega | (exact congrArg g (by omega)) | (exact congrArg g (show (8 : Int) + k - 12 = 8 + (k - 12) by omega)))), ht⟩) (fun _ h => by cases h) dX7_count_139
  have n7_1 := c_1
  by_cases c_1 : k = 8
  · refine lv_tableIn (tgt := 140) (off := 139) hx hb dX7_count_1 (by rw [zi_toInt rg_1, c_1]; decide) (by rw [zi_toInt rg_1, c_1]; decide) (by rw [zi_toInt rg_1, c_1]; rfl) (by decide) ?_
    refine lv_aload_n (pc := 140) hx hb dX7_count_140 rfl (lv_at hl 0 rfl) ?_
    refine zr_get (pc := 141) S hK hY.1 rfl i_X7 0 (by decide) (List.mem_of_getElem? (i := 1) rfl) rfl dX7_count_141 ?_
    refine zr_vi (pc := 144) (As := []) (rest := []) S (ct_X4_awayToday l D cI cT ad σ g hR hI  ) (cwV 0 hts gX7_count_X4_awayToday rfl rfl rfl (by decide +kernel) ⟨Nat.le_of_ble_eq_true rfl, Nat.le_of_ble_eq_true rfl⟩) zs0 hK hP (zr_recv hK (hP 0 (by decide)) rfl) rfl hl.1 rfl (Nat.le_of_ble_eq_true rfl) dX7_count_144 ⟨Nat.le_of_ble_eq_true rfl, Nat.le_of_ble_eq_true rfl⟩ (fun r_144 hr_144 => ?_)
    subst hr_144
    exact W.iret (v := zI (aset g (g 0).toNat)) hx hb hr (fun tz ht hW => ⟨_, rfl, congrArg zI (Eq.symm (by unfold qCou; (repeat' split) <;> first | rfl | omega | (exact congrArg g (by omega)) | (exact congrArg g (show (8 : Int) + k - 12 = 8 + (k - 12) by omega)))), ht⟩) (fun _ h => by cases h) dX7_count_147
  have n8_1 := c_1
  by_cases c_1 : k = 9
  · refine lv_tableIn (tgt := 148) (off := 147) hx hb dX7_count_1 (by rw [zi_toInt rg_1, c_1]; decide) (by rw [zi_toInt rg_1, c_1]; decide) (by rw [zi_toInt rg_1, c_1]; rfl) (by decide) ?_
    refine lv_aload_n (pc := 148) hx hb dX7_count_148 rfl (lv_at hl 0 rfl) ?_
    refine zr_get (pc := 149) S hK hY.1 rfl i_X7 0 (by decide) (List.mem_of_getElem? (i := 1) rfl) rfl dX7_count_149 ?_
    refine zr_get (pc := 152) S hK (hP 0 (by decide)) rfl i_X4 8 (by decide) (List.mem_of_getElem? (i := 12) rfl) rfl dX7_count_152 ?_
    refine zr_top (b := g 7) (rl_pf hR) ?_
    exact W.iret (v := zI (g 7)) hx hb hr (fun tz ht hW => ⟨_, rfl, congrArg zI (Eq.symm (by unfold qCou; (repeat' split) <;> first | rfl | omega | (exact congrArg g (by omega)) | (exact congrArg g (show (8 : Int) + k - 12 = 8 + (k - 12) by omega)))), ht⟩) (fun _ h => by cases h) dX7_count_155
  have n9_1 := c_1
  by_cases c_1 : k = 10
  · refine lv_tableIn (tgt := 156) (off := 155) hx hb dX7_count_1 (by rw [zi_toInt rg_1, c_1]; decide) (by rw [zi_toInt rg_1, c_1]; decide) (by rw [zi_toInt rg_1, c_1]; rfl) (by decide) ?_
    refine lv_aload_n (pc := 156) hx hb dX7_count_156 rfl (lv_at hl 0 rfl) ?_
    refine zr_get (pc := 157) S hK hY.1 rfl i_X7 1 (by decide) (List.mem_of_getElem? (i := 13) rfl) rfl dX7_count_157 ?_
    refine zr_get (pc := 160) S hK hH1 rfl i_X2 0 (by decide) (List.mem_of_getElem? (i := 14) rfl) rfl dX7_count_160 ?_
    exact W.iret (v := zI (n)) hx hb hr (fun tz ht hW => ⟨_, rfl, congrArg zI (Eq.symm (by unfold qCou; (repeat' split) <;> first | rfl | omega | (exact congrArg g (by omega)) | (exact congrArg g (show (8 : Int) + k - 12 = 8 + (k - 12) by omega)))), ht⟩) (fun _ h => by cases h) dX7_count_163
  have n10_1 := c_1
  by_cases c_1 : k = 11
  · refine lv_tableIn (tgt := 164) (off := 163) hx hb dX7_count_1 (by rw [zi_toInt rg_1, c_1]; decide) (by rw [zi_toInt rg_1, c_1]; decide) (by rw [zi_toInt rg_1, c_1]; rfl) (by decide) ?_
    refine lv_aload_n (pc := 164) hx hb dX7_count_164 rfl (lv_at hl 0 rfl) ?_
    refine zr_get (pc := 165) S hK hY.1 rfl i_X7 2 (by decide) (List.mem_of_getElem? (i := 15) rfl) rfl dX7_count_165 ?_
    refine zr_get (pc := 168) S hK hY.2.1 rfl i_X5 0 (by decide) (List.mem_of_getElem? (i := 16) rfl) rfl dX7_count_168 ?_
    exact W.iret (v := zI (tl)) hx hb hr (fun tz ht hW => ⟨_, rfl, congrArg zI (Eq.symm (by unfold qCou; (repeat' split) <;> first | rfl | omega | (exact congrArg g (by omega)) | (exact congrArg g (show (8 : Int) + k - 12 = 8 + (k - 12) by omega)))), ht⟩) (fun _ h => by cases h) dX7_count_171
  have n11_1 := c_1
  refine lv_tableOut (pc := 1) (tgt := 172) hx hb dX7_count_1 (by rw [zi_toInt rg_1]; omega) (by decide) ?_
  refine lv_iload_n (pc := 172) hx hb dX7_count_172 rfl (lv_at hl 1 rfl) ?_
  refine lv_bipush (pc := 173) (v := zI 12) hx hb dX7_count_173 zc_bipush_12 ?_
  refine lv_bipush (pc := 175) (v := zI 15) hx hb dX7_count_175 zc_bipush_15 ?_
  refine zr_si (pc := 177) (As := [.int (zI (k)), .int (zI (12)), .int (zI (15))]) (rest := []) S (ct_X7_isWithin l D cI cT k 12 15 (by omega) (by decide) (by decide)) (va_cwS 3 hts gX7_count_X7_isWithin rfl rfl rfl (by decide +kernel) ⟨Nat.le_of_ble_eq_true rfl, Nat.le_of_ble_eq_true rfl⟩) zs0 hK trivial rfl hl.1 rfl (Nat.le_of_ble_eq_true rfl) dX7_count_177 ⟨Nat.le_of_ble_eq_true rfl, Nat.le_of_ble_eq_true rfl⟩ (fun r_177 hr_177 => ?_)
  rcases hr_177 with ⟨hb_177, rfl⟩ | ⟨hb_177, rfl⟩
  · refine zr_if_eq (pc := 180) (tgt := 200) hx hb dX7_count_180 (by decide) (by decide) (fun z => absurd z (by decide)) (fun _ => ?_)
    refine lv_aload_n (pc := 183) hx hb dX7_count_183 rfl (lv_at hl 0 rfl) ?_
    refine zr_get (pc := 184) S hK hY.1 rfl i_X7 0 (by decide) (List.mem_of_getElem? (i := 1) rfl) rfl dX7_count_184 ?_
    refine zr_get (pc := 187) S hK (hP 0 (by decide)) rfl i_X4 3 (by decide) (List.mem_of_getElem? (i := 17) rfl) rfl dX7_count_187 ?_
    refine lv_iload_n (pc := 190) hx hb dX7_count_190 rfl (lv_at hl 1 rfl) ?_
    refine lv_bipush (pc := 191) (v := zI 12) hx hb dX7_count_191 zc_bipush_12 ?_
    refine zr_isub (pc := 193) (d := k - 12) hx hb dX7_count_193 rfl ?_
    refine zr_si (pc := 194) (As := [.ref (ad 4), .int (zI (k - 12))]) (rest := []) S (ct_X7_at l D cI cT (ad 4) 4 _ (k - 12) (gS g (k - 12)) (by decide) (by omega) (by omega) (rl_se hR (by omega) (by omega)) (by omega)) (va_cwS 2 hts gX7_count_X7_at rfl rfl rfl (by decide +kernel) ⟨Nat.le_of_ble_eq_true rfl, Nat.le_of_ble_eq_true rfl⟩) zs_ar hK (zAr_of (zK_int hK) (hP 4 (by decide))) rfl hl.1 rfl (Nat.le_of_ble_eq_true rfl) dX7_count_194 ⟨Nat.le_of_ble_eq_true rfl, Nat.le_of_ble_eq_true rfl⟩ (fun r_194 hr_194 => ?_)
    subst hr_194
    refine lv_goto (pc := 197) (tgt := 203) hx hb dX7_count_197 (by decide) ?_
    exact W.iret (v := zI (gS g (k - 12))) hx hb hr (fun tz ht hW => ⟨_, rfl, congrArg zI (Eq.symm (by unfold qCou; (repeat' split) <;> first | rfl | omega | (exact congrArg g (by omega)) | (exact congrArg g (show (8 : Int) + k - 12 = 8 + (k - 12) by omega)))), ht⟩) (fun _ h => by cases h) dX7_count_203
  · refine zr_if_eq (pc := 180) (tgt := 200) hx hb dX7_count_180 (by decide) (by decide) (fun _ => ?_) (fun z => absurd z (by decide))
    refine lv_sipush (pc := 200) (v := zI (-2001)) hx hb dX7_count_200 zc_sipush_m2001 ?_
    exact W.iret (v := zI ((-2001))) hx hb hr (fun tz ht hW => ⟨_, rfl, congrArg zI (Eq.symm (by unfold qCou; (repeat' split) <;> first | rfl | omega | (exact congrArg g (by omega)) | (exact congrArg g (show (8 : Int) + k - 12 = 8 + (k - 12) by omega)))), ht⟩) (fun _ h => by cases h) dX7_count_203
