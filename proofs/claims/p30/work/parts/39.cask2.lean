set_option maxHeartbeats 4000000 in
set_option maxRecDepth 100000 in
theorem ct_X7_costume (l : Launch) (D : va_G) (cI cT : ClassId) (ad : Nat → Nat) (σ : Nat → Int → Int) (g : Int → Int) (hR : Rel σ g) (hI : Inv g) (tl : Int) (tx rd rp : Int → Int) (c : Int) (k : Int) (r_c : -2147483648 ≤ c ∧ c ≤ 2147483647) (r_k : -2147483648 ≤ k ∧ k ≤ 2147483647) : zMr l yX7_costume wsX7_costume ({ frames := 4, cells := 0, slots := 0, locals := 90 }) D cI cT [.ref (ad 120), .int (zI (c)), .int (zI (k))] (fun _ H => zW D ad 20 (sC cI ad σ) H ∧ cY D cI ad tl tx rd rp H) (fun r => r = zI (qCos g c k)) := by
  refine Met.ofW (cc := cX7_costume) (maxL := 3) (ret := (some .int)) (by decide) rfl ?_
  intro p_ e_ s m_ args below meth c_ s₁ B hml hv
  obtain ⟨rfl, hK, hF⟩ := hv
  have hx := B.exec
  have hb := B.bytes
  have hr := B.returns
  have hts := atoms_spec (ws := wsX7_costume) B.pre
  have hown : s.vm.findClass RX7 = some m_.cls := findClass_of_methodNamed B.named
  have hlocks := B.notSynchronized
  have S : CallFix p_ m_ c_ cX7_costume 3 s _ wsX7_costume RX7 := ⟨hx, hb, hml, hown, hts⟩
  have i_X7 : ∀ w ∈ u_ws RX7 TX7 4, w ∈ wsX7_costume := fun _ h => List.mem_cons_of_mem _ (List.mem_append_left _ (List.mem_append_left _ (List.mem_append_left _ (List.mem_append_left _ (List.mem_append_right _ h)))))
  have i_X4 : ∀ w ∈ u_ws RX4 TX4 9, w ∈ wsX7_costume := fun _ h => List.mem_cons_of_mem _ (List.mem_append_left _ (List.mem_append_left _ (List.mem_append_left _ (List.mem_append_right _ h))))
  have i_X6 : ∀ w ∈ u_ws RX6 TX6 9, w ∈ wsX7_costume := fun _ h => List.mem_cons_of_mem _ (List.mem_append_left _ (List.mem_append_left _ (List.mem_append_right _ h)))
  obtain ⟨hP, hY⟩ := hF
  have hnC := iv_nC hI
  have hnA := iv_nA hI
  have hl := lv_entry ([.ref (ad 120), .int (zI (c)), .int (zI (k))]) (n := 3) (Nat.le_of_ble_eq_true rfl)
  rw [lg_entry_eq]
  generalize (lg_sl ([.ref (ad 120), .int (zI (c)), .int (zI (k))]) ++ List.replicate (3 - (lg_sl ([.ref (ad 120), .int (zI (c)), .int (zI (k))])).length) Slot.unset).toArray = ls at hl ⊢
  have hl : lv_has ls 3 [(0, .ref (ad 120)), (1, .int (zI (c))), (2, .int (zI (k)))] := hl
  refine lv_aload_n (pc := 0) hx hb dX7_costume_0 rfl (lv_at hl 0 rfl) ?_
  refine zr_get (pc := 1) S hK hY.1 rfl i_X7 0 (by decide) (List.mem_of_getElem? (i := 1) rfl) rfl dX7_costume_1 ?_
  refine zr_get (pc := 4) S hK (hP 0 (by decide)) rfl i_X4 0 (by decide) (List.mem_of_getElem? (i := 2) rfl) rfl dX7_costume_4 ?_
  refine lv_iload_n (pc := 7) hx hb dX7_costume_7 rfl (lv_at hl 1 rfl) ?_
  refine zr_vi (pc := 8) (As := [.int (zI (c))]) (rest := []) S (ct_X6_has l D cI cT ad σ g hR hI c (by omega)) (cwV 1 hts gX7_costume_X6_has rfl rfl rfl (by decide +kernel) ⟨Nat.le_of_ble_eq_true rfl, Nat.le_of_ble_eq_true rfl⟩) zs0 hK hP (zr_recv hK (hP 1 (by decide)) rfl) rfl hl.1 rfl (Nat.le_of_ble_eq_true rfl) dX7_costume_8 ⟨Nat.le_of_ble_eq_true rfl, Nat.le_of_ble_eq_true rfl⟩ (fun r_8 hr_8 => ?_)
  rcases hr_8 with ⟨hb_8, rfl⟩ | ⟨hb_8, rfl⟩
  · refine zr_if_ne (pc := 11) (tgt := 18) hx hb dX7_costume_11 (by decide) (by decide) (fun _ => ?_) (fun z => absurd z (by decide))
    refine lv_iload_n (pc := 18) hx hb dX7_costume_18 rfl (lv_at hl 2 rfl) ?_
    have rg_19 : -2147483648 ≤ k ∧ k ≤ 2147483647 := (by omega)
    by_cases c_19 : k = 0
    · refine lv_tableIn (tgt := 84) (off := 65) hx hb dX7_costume_19 (by rw [zi_toInt rg_19, c_19]; decide) (by rw [zi_toInt rg_19, c_19]; decide) (by rw [zi_toInt rg_19, c_19]; rfl) (by decide) ?_
      refine lv_aload_n (pc := 84) hx hb dX7_costume_84 rfl (lv_at hl 0 rfl) ?_
      refine zr_get (pc := 85) S hK hY.1 rfl i_X7 0 (by decide) (List.mem_of_getElem? (i := 1) rfl) rfl dX7_costume_85 ?_
      refine zr_get (pc := 88) S hK (hP 0 (by decide)) rfl i_X4 0 (by decide) (List.mem_of_getElem? (i := 2) rfl) rfl dX7_costume_88 ?_
      refine lv_iload_n (pc := 91) hx hb dX7_costume_91 rfl (lv_at hl 1 rfl) ?_
      refine lv_iload_n (pc := 92) hx hb dX7_costume_92 rfl (lv_at hl 2 rfl) ?_
      refine zr_vi (pc := 93) (As := [.int (zI (c)), .int (zI (k))]) (rest := []) S (ct_X6_present l D cI cT ad σ g hR hI c k (by omega) (by omega) (by omega) (by omega)) (cwV 2 hts gX7_costume_X6_present rfl rfl rfl (by decide +kernel) ⟨Nat.le_of_ble_eq_true rfl, Nat.le_of_ble_eq_true rfl⟩) zs0 hK hP (zr_recv hK (hP 1 (by decide)) rfl) rfl hl.1 rfl (Nat.le_of_ble_eq_true rfl) dX7_costume_93 ⟨Nat.le_of_ble_eq_true rfl, Nat.le_of_ble_eq_true rfl⟩ (fun r_93 hr_93 => ?_)
      subst hr_93
      have hp_93 := pres_bd hI (c := c) (m := k) (by omega) (by omega) (by omega) (by omega)
      exact W.iret (v := zI (pres g c k)) hx hb hr (fun tz ht hW => ⟨_, rfl, congrArg zI (Eq.symm ((tft (by omega)).trans (by first | exact tft (by omega) | exact (tff (by omega)).trans (tft (by omega)) | exact (tff (by omega)).trans ((tft (by omega)).trans (by rw [c_19]; rfl)) | exact (tff (by omega)).trans ((tff (by omega)).trans (tft (by omega))) | exact (tff (by omega)).trans ((tff (by omega)).trans (tff (by omega)))))), ht⟩) (fun _ h => by cases h) dX7_costume_96
    have n0_19 := c_19
    by_cases c_19 : k = 1
    · refine lv_tableIn (tgt := 84) (off := 65) hx hb dX7_costume_19 (by rw [zi_toInt rg_19, c_19]; decide) (by rw [zi_toInt rg_19, c_19]; decide) (by rw [zi_toInt rg_19, c_19]; rfl) (by decide) ?_
      refine lv_aload_n (pc := 84) hx hb dX7_costume_84 rfl (lv_at hl 0 rfl) ?_
      refine zr_get (pc := 85) S hK hY.1 rfl i_X7 0 (by decide) (List.mem_of_getElem? (i := 1) rfl) rfl dX7_costume_85 ?_
      refine zr_get (pc := 88) S hK (hP 0 (by decide)) rfl i_X4 0 (by decide) (List.mem_of_getElem? (i := 2) rfl) rfl dX7_costume_88 ?_
      refine lv_iload_n (pc := 91) hx hb dX7_costume_91 rfl (lv_at hl 1 rfl) ?_
      refine lv_iload_n (pc := 92) hx hb dX7_costume_92 rfl (lv_at hl 2 rfl) ?_
      refine zr_vi (pc := 93) (As := [.int (zI (c)), .int (zI (k))]) (rest := []) S (ct_X6_present l D cI cT ad σ g hR hI c k (by omega) (by omega) (by omega) (by omega)) (cwV 2 hts gX7_costume_X6_present rfl rfl rfl (by decide +kernel) ⟨Nat.le_of_ble_eq_true rfl, Nat.le_of_ble_eq_true rfl⟩) zs0 hK hP (zr_recv hK (hP 1 (by decide)) rfl) rfl hl.1 rfl (Nat.le_of_ble_eq_true rfl) dX7_costume_93 ⟨Nat.le_of_ble_eq_true rfl, Nat.le_of_ble_eq_true rfl⟩ (fun r_93 hr_93 => ?_)
      subst hr_93
      have hp_93 := pres_bd hI (c := c) (m := k) (by omega) (by omega) (by omega) (by omega)
      exact W.iret (v := zI (pres g c k)) hx hb hr (fun tz ht hW => ⟨_, rfl, congrArg zI (Eq.symm ((tft (by omega)).trans (by first | exact tft (by omega) | exact (tff (by omega)).trans (tft (by omega)) | exact (tff (by omega)).trans ((tft (by omega)).trans (by rw [c_19]; rfl)) | exact (tff (by omega)).trans ((tff (by omega)).trans (tft (by omega))) | exact (tff (by omega)).trans ((tff (by omega)).trans (tff (by omega)))))), ht⟩) (fun _ h => by cases h) dX7_costume_96
    have n1_19 := c_19
    by_cases c_19 : k = 2
    · refine lv_tableIn (tgt := 84) (off := 65) hx hb dX7_costume_19 (by rw [zi_toInt rg_19, c_19]; decide) (by rw [zi_toInt rg_19, c_19]; decide) (by rw [zi_toInt rg_19, c_19]; rfl) (by decide) ?_
      refine lv_aload_n (pc := 84) hx hb dX7_costume_84 rfl (lv_at hl 0 rfl) ?_
      refine zr_get (pc := 85) S hK hY.1 rfl i_X7 0 (by decide) (List.mem_of_getElem? (i := 1) rfl) rfl dX7_costume_85 ?_
      refine zr_get (pc := 88) S hK (hP 0 (by decide)) rfl i_X4 0 (by decide) (List.mem_of_getElem? (i := 2) rfl) rfl dX7_costume_88 ?_
      refine lv_iload_n (pc := 91) hx hb dX7_costume_91 rfl (lv_at hl 1 rfl) ?_
      refine lv_iload_n (pc := 92) hx hb dX7_costume_92 rfl (lv_at hl 2 rfl) ?_
      refine zr_vi (pc := 93) (As := [.int (zI (c)), .int (zI (k))]) (rest := []) S (ct_X6_present l D cI cT ad σ g hR hI c k (by omega) (by omega) (by omega) (by omega)) (cwV 2 hts gX7_costume_X6_present rfl rfl rfl (by decide +kernel) ⟨Nat.le_of_ble_eq_true rfl, Nat.le_of_ble_eq_true rfl⟩) zs0 hK hP (zr_recv hK (hP 1 (by decide)) rfl) rfl hl.1 rfl (Nat.le_of_ble_eq_true rfl) dX7_costume_93 ⟨Nat.le_of_ble_eq_true rfl, Nat.le_of_ble_eq_true rfl⟩ (fun r_93 hr_93 => ?_)
      subst hr_93
      have hp_93 := pres_bd hI (c := c) (m := k) (by omega) (by omega) (by omega) (by omega)
      exact W.iret (v := zI (pres g c k)) hx hb hr (fun tz ht hW => ⟨_, rfl, congrArg zI (Eq.symm ((tft (by omega)).trans (by first | exact tft (by omega) | exact (tff (by omega)).trans (tft (by omega)) | exact (tff (by omega)).trans ((tft (by omega)).trans (by rw [c_19]; rfl)) | exact (tff (by omega)).trans ((tff (by omega)).trans (tft (by omega))) | exact (tff (by omega)).trans ((tff (by omega)).trans (tff (by omega)))))), ht⟩) (fun _ h => by cases h) dX7_costume_96
    have n2_19 := c_19
    by_cases c_19 : k = 3
    · refine lv_tableIn (tgt := 97) (off := 78) hx hb dX7_costume_19 (by rw [zi_toInt rg_19, c_19]; decide) (by rw [zi_toInt rg_19, c_19]; decide) (by rw [zi_toInt rg_19, c_19]; rfl) (by decide) ?_
      refine lv_aload_n (pc := 97) hx hb dX7_costume_97 rfl (lv_at hl 0 rfl) ?_
      refine zr_get (pc := 98) S hK hY.1 rfl i_X7 0 (by decide) (List.mem_of_getElem? (i := 1) rfl) rfl dX7_costume_98 ?_
      refine zr_get (pc := 101) S hK (hP 0 (by decide)) rfl i_X4 0 (by decide) (List.mem_of_getElem? (i := 2) rfl) rfl dX7_costume_101 ?_
      refine lv_iload_n (pc := 104) hx hb dX7_costume_104 rfl (lv_at hl 1 rfl) ?_
      refine lv_iload_n (pc := 105) hx hb dX7_costume_105 rfl (lv_at hl 2 rfl) ?_
      refine lv_iconst (pc := 106) (v := zI 3) hx hb dX7_costume_106 rfl ?_
      refine zr_isub (pc := 107) (d := k - 3) hx hb dX7_costume_107 rfl ?_
      refine zr_vi (pc := 108) (As := [.int (zI (c)), .int (zI (k - 3))]) (rest := []) S (ct_X6_originalOf l D cI cT ad σ g hR hI c (k - 3) (by omega) (by omega) (by omega) (by omega)) (cwV 2 hts gX7_costume_X6_originalOf rfl rfl rfl (by decide +kernel) ⟨Nat.le_of_ble_eq_true rfl, Nat.le_of_ble_eq_true rfl⟩) zs0 hK hP (zr_recv hK (hP 1 (by decide)) rfl) rfl hl.1 rfl (Nat.le_of_ble_eq_true rfl) dX7_costume_108 ⟨Nat.le_of_ble_eq_true rfl, Nat.le_of_ble_eq_true rfl⟩ (fun r_108 hr_108 => ?_)
      subst hr_108
      exact W.iret (v := zI (gC g c (k - 3))) hx hb hr (fun tz ht hW => ⟨_, rfl, congrArg zI (Eq.symm ((tft (by omega)).trans (by first | exact tft (by omega) | exact (tff (by omega)).trans (tft (by omega)) | exact (tff (by omega)).trans ((tft (by omega)).trans (by rw [c_19]; rfl)) | exact (tff (by omega)).trans ((tff (by omega)).trans (tft (by omega))) | exact (tff (by omega)).trans ((tff (by omega)).trans (tff (by omega)))))), ht⟩) (fun _ h => by cases h) dX7_costume_111
    have n3_19 := c_19
    by_cases c_19 : k = 4
    · refine lv_tableIn (tgt := 97) (off := 78) hx hb dX7_costume_19 (by rw [zi_toInt rg_19, c_19]; decide) (by rw [zi_toInt rg_19, c_19]; decide) (by rw [zi_toInt rg_19, c_19]; rfl) (by decide) ?_
      refine lv_aload_n (pc := 97) hx hb dX7_costume_97 rfl (lv_at hl 0 rfl) ?_
      refine zr_get (pc := 98) S hK hY.1 rfl i_X7 0 (by decide) (List.mem_of_getElem? (i := 1) rfl) rfl dX7_costume_98 ?_
      refine zr_get (pc := 101) S hK (hP 0 (by decide)) rfl i_X4 0 (by decide) (List.mem_of_getElem? (i := 2) rfl) rfl dX7_costume_101 ?_
      refine lv_iload_n (pc := 104) hx hb dX7_costume_104 rfl (lv_at hl 1 rfl) ?_
      refine lv_iload_n (pc := 105) hx hb dX7_costume_105 rfl (lv_at hl 2 rfl) ?_
      refine lv_iconst (pc := 106) (v := zI 3) hx hb dX7_costume_106 rfl ?_
      refine zr_isub (pc := 107) (d := k - 3) hx hb dX7_costume_107 rfl ?_
      refine zr_vi (pc := 108) (As := [.int (zI (c)), .int (zI (k - 3))]) (rest := []) S (ct_X6_originalOf l D cI cT ad σ g hR hI c (k - 3) (by omega) (by omega) (by omega) (by omega)) (cwV 2 hts gX7_costume_X6_originalOf rfl rfl rfl (by decide +kernel) ⟨Nat.le_of_ble_eq_true rfl, Nat.le_of_ble_eq_true rfl⟩) zs0 hK hP (zr_recv hK (hP 1 (by decide)) rfl) rfl hl.1 rfl (Nat.le_of_ble_eq_true rfl) dX7_costume_108 ⟨Nat.le_of_ble_eq_true rfl, Nat.le_of_ble_eq_true rfl⟩ (fun r_108 hr_108 => ?_)
      subst hr_108
      exact W.iret (v := zI (gC g c (k - 3))) hx hb hr (fun tz ht hW => ⟨_, rfl, congrArg zI (Eq.symm ((tft (by omega)).trans (by first | exact tft (by omega) | exact (tff (by omega)).trans (tft (by omega)) | exact (tff (by omega)).trans ((tft (by omega)).trans (by rw [c_19]; rfl)) | exact (tff (by omega)).trans ((tff (by omega)).trans (tft (by omega))) | exact (tff (by omega)).trans ((tff (by omega)).trans (tff (by omega)))))), ht⟩) (fun _ h => by cases h) dX7_costume_111
    have n4_19 := c_19
    by_cases c_19 : k = 5
    · refine lv_tableIn (tgt := 97) (off := 78) hx hb dX7_costume_19 (by rw [zi_toInt rg_19, c_19]; decide) (by rw [zi_toInt rg_19, c_19]; decide) (by rw [zi_toInt rg_19, c_19]; rfl) (by decide) ?_
      refine lv_aload_n (pc := 97) hx hb dX7_costume_97 rfl (lv_at hl 0 rfl) ?_
      refine zr_get (pc := 98) S hK hY.1 rfl i_X7 0 (by decide) (List.mem_of_getElem? (i := 1) rfl) rfl dX7_costume_98 ?_
      refine zr_get (pc := 101) S hK (hP 0 (by decide)) rfl i_X4 0 (by decide) (List.mem_of_getElem? (i := 2) rfl) rfl dX7_costume_101 ?_
      refine lv_iload_n (pc := 104) hx hb dX7_costume_104 rfl (lv_at hl 1 rfl) ?_
      refine lv_iload_n (pc := 105) hx hb dX7_costume_105 rfl (lv_at hl 2 rfl) ?_
      refine lv_iconst (pc := 106) (v := zI 3) hx hb dX7_costume_106 rfl ?_
      refine zr_isub (pc := 107) (d := k - 3) hx hb dX7_costume_107 rfl ?_
      refine zr_vi (pc := 108) (As := [.int (zI (c)), .int (zI (k - 3))]) (rest := []) S (ct_X6_originalOf l D cI cT ad σ g hR hI c (k - 3) (by omega) (by omega) (by omega) (by omega)) (cwV 2 hts gX7_costume_X6_originalOf rfl rfl rfl (by decide +kernel) ⟨Nat.le_of_ble_eq_true rfl, Nat.le_of_ble_eq_true rfl⟩) zs0 hK hP (zr_recv hK (hP 1 (by decide)) rfl) rfl hl.1 rfl (Nat.le_of_ble_eq_true rfl) dX7_costume_108 ⟨Nat.le_of_ble_eq_true rfl, Nat.le_of_ble_eq_true rfl⟩ (fun r_108 hr_108 => ?_)
      subst hr_108
      exact W.iret (v := zI (gC g c (k - 3))) hx hb hr (fun tz ht hW => ⟨_, rfl, congrArg zI (Eq.symm ((tft (by omega)).trans (by first | exact tft (by omega) | exact (tff (by omega)).trans (tft (by omega)) | exact (tff (by omega)).trans ((tft (by omega)).trans (by rw [c_19]; rfl)) | exact (tff (by omega)).trans ((tff (by omega)).trans (tft (by omega))) | exact (tff (by omega)).trans ((tff (by omega)).trans (tff (by omega)))))), ht⟩) (fun _ h => by cases h) dX7_costume_111
    have n5_19 := c_19
    by_cases c_19 : k = 6
    · refine lv_tableIn (tgt := 112) (off := 93) hx hb dX7_costume_19 (by rw [zi_toInt rg_19, c_19]; decide) (by rw [zi_toInt rg_19, c_19]; decide) (by rw [zi_toInt rg_19, c_19]; rfl) (by decide) ?_
      refine lv_aload_n (pc := 112) hx hb dX7_costume_112 rfl (lv_at hl 0 rfl) ?_
      refine zr_get (pc := 113) S hK hY.1 rfl i_X7 0 (by decide) (List.mem_of_getElem? (i := 1) rfl) rfl dX7_costume_113 ?_
      refine zr_get (pc := 116) S hK (hP 0 (by decide)) rfl i_X4 0 (by decide) (List.mem_of_getElem? (i := 2) rfl) rfl dX7_costume_116 ?_
      refine zr_get (pc := 119) S hK (hP 1 (by decide)) rfl i_X6 2 (by decide) (List.mem_of_getElem? (i := 3) rfl) rfl dX7_costume_119 ?_
      refine lv_iload_n (pc := 122) hx hb dX7_costume_122 rfl (lv_at hl 1 rfl) ?_
      refine zr_si (pc := 123) (As := [.ref (ad 6), .int (zI (c))]) (rest := []) S (ct_X7_at l D cI cT (ad 6) 16 _ c (gC g c 3) (by decide) (by omega) (by omega) (rl_al hR (by omega) (by omega)) (by omega)) (va_cwS 2 hts gX7_costume_X7_at rfl rfl rfl (by decide +kernel) ⟨Nat.le_of_ble_eq_true rfl, Nat.le_of_ble_eq_true rfl⟩) zs_ar hK (zAr_of (zK_int hK) (hP 6 (by decide))) rfl hl.1 rfl (Nat.le_of_ble_eq_true rfl) dX7_costume_123 ⟨Nat.le_of_ble_eq_true rfl, Nat.le_of_ble_eq_true rfl⟩ (fun r_123 hr_123 => ?_)
      subst hr_123
      exact W.iret (v := zI (gC g c 3)) hx hb hr (fun tz ht hW => ⟨_, rfl, congrArg zI (Eq.symm ((tft (by omega)).trans (by first | exact tft (by omega) | exact (tff (by omega)).trans (tft (by omega)) | exact (tff (by omega)).trans ((tft (by omega)).trans (by rw [c_19]; rfl)) | exact (tff (by omega)).trans ((tff (by omega)).trans (tft (by omega))) | exact (tff (by omega)).trans ((tff (by omega)).trans (tff (by omega)))))), ht⟩) (fun _ h => by cases h) dX7_costume_126
    have n6_19 := c_19
    by_cases c_19 : k = 7
    · refine lv_tableIn (tgt := 127) (off := 108) hx hb dX7_costume_19 (by rw [zi_toInt rg_19, c_19]; decide) (by rw [zi_toInt rg_19, c_19]; decide) (by rw [zi_toInt rg_19, c_19]; rfl) (by decide) ?_
      refine lv_aload_n (pc := 127) hx hb dX7_costume_127 rfl (lv_at hl 0 rfl) ?_
      refine zr_get (pc := 128) S hK hY.1 rfl i_X7 0 (by decide) (List.mem_of_getElem? (i := 1) rfl) rfl dX7_costume_128 ?_
      refine zr_get (pc := 131) S hK (hP 0 (by decide)) rfl i_X4 0 (by decide) (List.mem_of_getElem? (i := 2) rfl) rfl dX7_costume_131 ?_
      refine zr_get (pc := 134) S hK (hP 1 (by decide)) rfl i_X6 3 (by decide) (List.mem_of_getElem? (i := 4) rfl) rfl dX7_costume_134 ?_
      refine lv_iload_n (pc := 137) hx hb dX7_costume_137 rfl (lv_at hl 1 rfl) ?_
      refine zr_si (pc := 138) (As := [.ref (ad 7), .int (zI (c))]) (rest := []) S (ct_X7_at l D cI cT (ad 7) 16 _ c (gC g c 4) (by decide) (by omega) (by omega) (rl_co hR (by omega) (by omega)) (by omega)) (va_cwS 2 hts gX7_costume_X7_at rfl rfl rfl (by decide +kernel) ⟨Nat.le_of_ble_eq_true rfl, Nat.le_of_ble_eq_true rfl⟩) zs_ar hK (zAr_of (zK_int hK) (hP 7 (by decide))) rfl hl.1 rfl (Nat.le_of_ble_eq_true rfl) dX7_costume_138 ⟨Nat.le_of_ble_eq_true rfl, Nat.le_of_ble_eq_true rfl⟩ (fun r_138 hr_138 => ?_)
      subst hr_138
      exact W.iret (v := zI (gC g c 4)) hx hb hr (fun tz ht hW => ⟨_, rfl, congrArg zI (Eq.symm ((tft (by omega)).trans (by first | exact tft (by omega) | exact (tff (by omega)).trans (tft (by omega)) | exact (tff (by omega)).trans ((tft (by omega)).trans (by rw [c_19]; rfl)) | exact (tff (by omega)).trans ((tff (by omega)).trans (tft (by omega))) | exact (tff (by omega)).trans ((tff (by omega)).trans (tff (by omega)))))), ht⟩) (fun _ h => by cases h) dX7_costume_141
    have n7_19 := c_19
    by_cases c_19 : k = 8
    · refine lv_tableIn (tgt := 142) (off := 123) hx hb dX7_costume_19 (by rw [zi_toInt rg_19, c_19]; decide) (by rw [zi_toInt rg_19, c_19]; decide) (by rw [zi_toInt rg_19, c_19]; rfl) (by decide) ?_
      refine lv_aload_n (pc := 142) hx hb dX7_costume_142 rfl (lv_at hl 0 rfl) ?_
      refine zr_get (pc := 143) S hK hY.1 rfl i_X7 0 (by decide) (List.mem_of_getElem? (i := 1) rfl) rfl dX7_costume_143 ?_
      refine zr_get (pc := 146) S hK (hP 0 (by decide)) rfl i_X4 0 (by decide) (List.mem_of_getElem? (i := 2) rfl) rfl dX7_costume_146 ?_
      refine zr_get (pc := 149) S hK (hP 1 (by decide)) rfl i_X6 4 (by decide) (List.mem_of_getElem? (i := 5) rfl) rfl dX7_costume_149 ?_
      refine lv_iload_n (pc := 152) hx hb dX7_costume_152 rfl (lv_at hl 1 rfl) ?_
      refine zr_si (pc := 153) (As := [.ref (ad 8), .int (zI (c))]) (rest := []) S (ct_X7_at l D cI cT (ad 8) 16 _ c (gC g c 5) (by decide) (by omega) (by omega) (rl_cl hR (by omega) (by omega)) (by omega)) (va_cwS 2 hts gX7_costume_X7_at rfl rfl rfl (by decide +kernel) ⟨Nat.le_of_ble_eq_true rfl, Nat.le_of_ble_eq_true rfl⟩) zs_ar hK (zAr_of (zK_int hK) (hP 8 (by decide))) rfl hl.1 rfl (Nat.le_of_ble_eq_true rfl) dX7_costume_153 ⟨Nat.le_of_ble_eq_true rfl, Nat.le_of_ble_eq_true rfl⟩ (fun r_153 hr_153 => ?_)
      subst hr_153
      exact W.iret (v := zI (gC g c 5)) hx hb hr (fun tz ht hW => ⟨_, rfl, congrArg zI (Eq.symm ((tft (by omega)).trans (by first | exact tft (by omega) | exact (tff (by omega)).trans (tft (by omega)) | exact (tff (by omega)).trans ((tft (by omega)).trans (by rw [c_19]; rfl)) | exact (tff (by omega)).trans ((tff (by omega)).trans (tft (by omega))) | exact (tff (by omega)).trans ((tff (by omega)).trans (tff (by omega)))))), ht⟩) (fun _ h => by cases h) dX7_costume_156
    have n8_19 := c_19
    by_cases c_19 : k = 9
    · refine lv_tableIn (tgt := 157) (off := 138) hx hb dX7_costume_19 (by rw [zi_toInt rg_19, c_19]; decide) (by rw [zi_toInt rg_19, c_19]; decide) (by rw [zi_toInt rg_19, c_19]; rfl) (by decide) ?_
      refine lv_aload_n (pc := 157) hx hb dX7_costume_157 rfl (lv_at hl 0 rfl) ?_
      refine zr_get (pc := 158) S hK hY.1 rfl i_X7 0 (by decide) (List.mem_of_getElem? (i := 1) rfl) rfl dX7_costume_158 ?_
      refine zr_get (pc := 161) S hK (hP 0 (by decide)) rfl i_X4 0 (by decide) (List.mem_of_getElem? (i := 2) rfl) rfl dX7_costume_161 ?_
      refine zr_get (pc := 164) S hK (hP 1 (by decide)) rfl i_X6 5 (by decide) (List.mem_of_getElem? (i := 6) rfl) rfl dX7_costume_164 ?_
      refine lv_iload_n (pc := 167) hx hb dX7_costume_167 rfl (lv_at hl 1 rfl) ?_
      refine zr_si (pc := 168) (As := [.ref (ad 9), .int (zI (c))]) (rest := []) S (ct_X7_at l D cI cT (ad 9) 16 _ c (gC g c 6) (by decide) (by omega) (by omega) (rl_di hR (by omega) (by omega)) (by omega)) (va_cwS 2 hts gX7_costume_X7_at rfl rfl rfl (by decide +kernel) ⟨Nat.le_of_ble_eq_true rfl, Nat.le_of_ble_eq_true rfl⟩) zs_ar hK (zAr_of (zK_int hK) (hP 9 (by decide))) rfl hl.1 rfl (Nat.le_of_ble_eq_true rfl) dX7_costume_168 ⟨Nat.le_of_ble_eq_true rfl, Nat.le_of_ble_eq_true rfl⟩ (fun r_168 hr_168 => ?_)
      subst hr_168
      exact W.iret (v := zI (gC g c 6)) hx hb hr (fun tz ht hW => ⟨_, rfl, congrArg zI (Eq.symm ((tft (by omega)).trans (by first | exact tft (by omega) | exact (tff (by omega)).trans (tft (by omega)) | exact (tff (by omega)).trans ((tft (by omega)).trans (by rw [c_19]; rfl)) | exact (tff (by omega)).trans ((tff (by omega)).trans (tft (by omega))) | exact (tff (by omega)).trans ((tff (by omega)).trans (tff (by omega)))))), ht⟩) (fun _ h => by cases h) dX7_costume_171
    have n9_19 := c_19
    by_cases c_19 : k = 10
    · refine lv_tableIn (tgt := 172) (off := 153) hx hb dX7_costume_19 (by rw [zi_toInt rg_19, c_19]; decide) (by rw [zi_toInt rg_19, c_19]; decide) (by rw [zi_toInt rg_19, c_19]; rfl) (by decide) ?_
      refine lv_aload_n (pc := 172) hx hb dX7_costume_172 rfl (lv_at hl 0 rfl) ?_
      refine zr_get (pc := 173) S hK hY.1 rfl i_X7 0 (by decide) (List.mem_of_getElem? (i := 1) rfl) rfl dX7_costume_173 ?_
      refine zr_get (pc := 176) S hK (hP 0 (by decide)) rfl i_X4 0 (by decide) (List.mem_of_getElem? (i := 2) rfl) rfl dX7_costume_176 ?_
      refine zr_get (pc := 179) S hK (hP 1 (by decide)) rfl i_X6 6 (by decide) (List.mem_of_getElem? (i := 7) rfl) rfl dX7_costume_179 ?_
      refine lv_iload_n (pc := 182) hx hb dX7_costume_182 rfl (lv_at hl 1 rfl) ?_
      refine zr_si (pc := 183) (As := [.ref (ad 10), .int (zI (c))]) (rest := []) S (ct_X7_at l D cI cT (ad 10) 16 _ c (gC g c 7) (by decide) (by omega) (by omega) (rl_na hR (by omega) (by omega)) (by omega)) (va_cwS 2 hts gX7_costume_X7_at rfl rfl rfl (by decide +kernel) ⟨Nat.le_of_ble_eq_true rfl, Nat.le_of_ble_eq_true rfl⟩) zs_ar hK (zAr_of (zK_int hK) (hP 10 (by decide))) rfl hl.1 rfl (Nat.le_of_ble_eq_true rfl) dX7_costume_183 ⟨Nat.le_of_ble_eq_true rfl, Nat.le_of_ble_eq_true rfl⟩ (fun r_183 hr_183 => ?_)
      subst hr_183
      exact W.iret (v := zI (gC g c 7)) hx hb hr (fun tz ht hW => ⟨_, rfl, congrArg zI (Eq.symm ((tft (by omega)).trans (by first | exact tft (by omega) | exact (tff (by omega)).trans (tft (by omega)) | exact (tff (by omega)).trans ((tft (by omega)).trans (by rw [c_19]; rfl)) | exact (tff (by omega)).trans ((tff (by omega)).trans (tft (by omega))) | exact (tff (by omega)).trans ((tff (by omega)).trans (tff (by omega)))))), ht⟩) (fun _ h => by cases h) dX7_costume_186
    have n10_19 := c_19
    by_cases c_19 : k = 11
    · refine lv_tableIn (tgt := 187) (off := 168) hx hb dX7_costume_19 (by rw [zi_toInt rg_19, c_19]; decide) (by rw [zi_toInt rg_19, c_19]; decide) (by rw [zi_toInt rg_19, c_19]; rfl) (by decide) ?_
      refine lv_aload_n (pc := 187) hx hb dX7_costume_187 rfl (lv_at hl 0 rfl) ?_
      refine zr_get (pc := 188) S hK hY.1 rfl i_X7 0 (by decide) (List.mem_of_getElem? (i := 1) rfl) rfl dX7_costume_188 ?_
      refine zr_get (pc := 191) S hK (hP 0 (by decide)) rfl i_X4 1 (by decide) (List.mem_of_getElem? (i := 8) rfl) rfl dX7_costume_191 ?_
      refine lv_iload_n (pc := 194) hx hb dX7_costume_194 rfl (lv_at hl 1 rfl) ?_
      refine zr_vi (pc := 195) (As := [.int (zI (c))]) (rest := []) S (ct_X0_scenesOf l D cI cT ad σ g hR hI c (by omega) (by omega)) (cwV 1 hts gX7_costume_X0_scenesOf rfl rfl rfl (by decide +kernel) ⟨Nat.le_of_ble_eq_true rfl, Nat.le_of_ble_eq_true rfl⟩) zs0 hK hP (zr_recv hK (hP 2 (by decide)) rfl) rfl hl.1 rfl (Nat.le_of_ble_eq_true rfl) dX7_costume_195 ⟨Nat.le_of_ble_eq_true rfl, Nat.le_of_ble_eq_true rfl⟩ (fun r_195 hr_195 => ?_)
      subst hr_195
      have hs_195 := scn_bd g (c)
      exact W.iret (v := zI (scn g c)) hx hb hr (fun tz ht hW => ⟨_, rfl, congrArg zI (Eq.symm ((tft (by omega)).trans (by first | exact tft (by omega) | exact (tff (by omega)).trans (tft (by omega)) | exact (tff (by omega)).trans ((tft (by omega)).trans (by rw [c_19]; rfl)) | exact (tff (by omega)).trans ((tff (by omega)).trans (tft (by omega))) | exact (tff (by omega)).trans ((tff (by omega)).trans (tff (by omega)))))), ht⟩) (fun _ h => by cases h) dX7_costume_198
    have n11_19 := c_19
    by_cases c_19 : k = 12
    · refine lv_tableIn (tgt := 199) (off := 180) hx hb dX7_costume_19 (by rw [zi_toInt rg_19, c_19]; decide) (by rw [zi_toInt rg_19, c_19]; decide) (by rw [zi_toInt rg_19, c_19]; rfl) (by decide) ?_
      refine lv_aload_n (pc := 199) hx hb dX7_costume_199 rfl (lv_at hl 0 rfl) ?_
      refine zr_get (pc := 200) S hK hY.1 rfl i_X7 0 (by decide) (List.mem_of_getElem? (i := 1) rfl) rfl dX7_costume_200 ?_
      refine zr_get (pc := 203) S hK (hP 0 (by decide)) rfl i_X4 2 (by decide) (List.mem_of_getElem? (i := 9) rfl) rfl dX7_costume_203 ?_
      refine lv_iload_n (pc := 206) hx hb dX7_costume_206 rfl (lv_at hl 1 rfl) ?_
      refine zr_vi (pc := 207) (As := [.int (zI (c))]) (rest := []) S (ct_X1_hiresOf l D cI cT ad σ g hR hI c (by omega) (by omega)) (cwV 1 hts gX7_costume_X1_hiresOf rfl rfl rfl (by decide +kernel) ⟨Nat.le_of_ble_eq_true rfl, Nat.le_of_ble_eq_true rfl⟩) zs0 hK hP (zr_recv hK (hP 3 (by decide)) rfl) rfl hl.1 rfl (Nat.le_of_ble_eq_true rfl) dX7_costume_207 ⟨Nat.le_of_ble_eq_true rfl, Nat.le_of_ble_eq_true rfl⟩ (fun r_207 hr_207 => ?_)
      subst hr_207
      exact W.iret (v := zI (hrs g c)) hx hb hr (fun tz ht hW => ⟨_, rfl, congrArg zI (Eq.symm ((tft (by omega)).trans (by first | exact tft (by omega) | exact (tff (by omega)).trans (tft (by omega)) | exact (tff (by omega)).trans ((tft (by omega)).trans (by rw [c_19]; rfl)) | exact (tff (by omega)).trans ((tff (by omega)).trans (tft (by omega))) | exact (tff (by omega)).trans ((tff (by omega)).trans (tff (by omega)))))), ht⟩) (fun _ h => by cases h) dX7_costume_210
    have n12_19 := c_19
    refine lv_tableOut (pc := 19) (tgt := 211) hx hb dX7_costume_19 (by rw [zi_toInt rg_19]; omega) (by decide) ?_
    refine lv_sipush (pc := 211) (v := zI (-2001)) hx hb dX7_costume_211 zc_sipush_m2001 ?_
    exact W.iret (v := zI ((-2001))) hx hb hr (fun tz ht hW => ⟨_, rfl, congrArg zI (Eq.symm (tff (fun q => by omega))), ht⟩) (fun _ h => by cases h) dX7_costume_214
  · refine zr_if_ne (pc := 11) (tgt := 18) hx hb dX7_costume_11 (by decide) (by decide) (fun z => absurd z (by decide)) (fun _ => ?_)
    refine lv_sipush (pc := 14) (v := zI (-2001)) hx hb dX7_costume_14 zc_sipush_m2001 ?_
    exact W.iret (v := zI ((-2001))) hx hb hr (fun tz ht hW => ⟨_, rfl, congrArg zI (Eq.symm (tff (fun q => by omega))), ht⟩) (fun _ h => by cases h) dX7_costume_17
set_option maxHeartbeats 4000000 in
set_option maxRecDepth 100000 in
theorem ct_X7_alteration (l : Launch) (D : va_G) (cI cT : ClassId) (ad : Nat → Nat) (σ : Nat → Int → Int) (g : Int → Int) (hR : Rel σ g) (hI : Inv g) (tl : Int) (tx rd rp : Int → Int) (c : Int) (k : Int) (p : Int) (r_c : -2147483648 ≤ c ∧ c ≤ 2147483647) (r_k : -2147483648 ≤ k ∧ k ≤ 2147483647) (r_p : -2147483648 ≤ p ∧ p ≤ 2147483647) : zMr l yX7_alteration wsX7_alteration ({ frames := 1, cells := 0, slots := 0, locals := 22 }) D cI cT [.ref (ad 120), .int (zI (c)), .int (zI (k)), .int (zI (p))] (fun _ H => zW D ad 20 (sC cI ad σ) H ∧ cY D cI ad tl tx rd rp H) (fun r => r = zI (qAlt g c k p)) := by
  refine Met.ofW (cc := cX7_alteration) (maxL := 5) (ret := (some .int)) (by decide) rfl ?_
  intro p_ e_ s m_ args below meth c_ s₁ B hml hv
  obtain ⟨rfl, hK, hF⟩ := hv
  have hx := B.exec
  have hb := B.bytes
  have hr := B.returns
  have hts := atoms_spec (ws := wsX7_alteration) B.pre
  have hown : s.vm.findClass RX7 = some m_.cls := findClass_of_methodNamed B.named
  have hlocks := B.notSynchronized
  have S : CallFix p_ m_ c_ cX7_alteration 5 s _ wsX7_alteration RX7 := ⟨hx, hb, hml, hown, hts⟩
  have i_X7 : ∀ w ∈ u_ws RX7 TX7 4, w ∈ wsX7_alteration := fun _ h => List.mem_cons_of_mem _ (List.mem_append_left _ (List.mem_append_left _ (List.mem_append_right _ h)))
  have i_X4 : ∀ w ∈ u_ws RX4 TX4 9, w ∈ wsX7_alteration := fun _ h => List.mem_cons_of_mem _ (List.mem_append_left _ (List.mem_append_right _ h))
  have i_X6 : ∀ w ∈ u_ws RX6 TX6 9, w ∈ wsX7_alteration := fun _ h => List.mem_cons_of_mem _ (List.mem_append_right _ h)
  obtain ⟨hP, hY⟩ := hF
  have hnC := iv_nC hI
  have hl := lv_entry ([.ref (ad 120), .int (zI (c)), .int (zI (k)), .int (zI (p))]) (n := 5) (Nat.le_of_ble_eq_true rfl)
  rw [lg_entry_eq]
  generalize (lg_sl ([.ref (ad 120), .int (zI (c)), .int (zI (k)), .int (zI (p))]) ++ List.replicate (5 - (lg_sl ([.ref (ad 120), .int (zI (c)), .int (zI (k)), .int (zI (p))])).length) Slot.unset).toArray = ls at hl ⊢
  have hl : lv_has ls 5 [(0, .ref (ad 120)), (1, .int (zI (c))), (2, .int (zI (k))), (3, .int (zI (p)))] := hl
  refine lv_aload_n (pc := 0) hx hb dX7_alteration_0 rfl (lv_at hl 0 rfl) ?_
  refine zr_get (pc := 1) S hK hY.1 rfl i_X7 0 (by decide) (List.mem_of_getElem? (i := 1) rfl) rfl dX7_alteration_1 ?_
  refine zr_get (pc := 4) S hK (hP 0 (by decide)) rfl i_X4 0 (by decide) (List.mem_of_getElem? (i := 2) rfl) rfl dX7_alteration_4 ?_
  refine lv_iload_n (pc := 7) hx hb dX7_alteration_7 rfl (lv_at hl 1 rfl) ?_
  refine zr_vi (pc := 8) (As := [.int (zI (c))]) (rest := []) S (ct_X6_has l D cI cT ad σ g hR hI c (by omega)) (cwV 1 hts gX7_alteration_X6_has rfl rfl rfl (by decide +kernel) ⟨Nat.le_of_ble_eq_true rfl, Nat.le_of_ble_eq_true rfl⟩) zs0 hK hP (zr_recv hK (hP 1 (by decide)) rfl) rfl hl.1 rfl (Nat.le_of_ble_eq_true rfl) dX7_alteration_8 ⟨Nat.le_of_ble_eq_true rfl, Nat.le_of_ble_eq_true rfl⟩ (fun r_8 hr_8 => ?_)
  rcases hr_8 with ⟨hb_8, rfl⟩ | ⟨hb_8, rfl⟩
  · refine zr_if_eq (pc := 11) (tgt := 27) hx hb dX7_alteration_11 (by decide) (by decide) (fun z => absurd z (by decide)) (fun _ => ?_)
    refine lv_iload_n (pc := 14) hx hb dX7_alteration_14 rfl (lv_at hl 2 rfl) ?_
    refine zr_if_lt (pc := 15) (tgt := 27) hx hb dX7_alteration_15 (by decide) (by omega) (fun c_15 => ?_) (fun c_15 => ?_)
    · refine lv_sipush (pc := 27) (v := zI (-2001)) hx hb dX7_alteration_27 zc_sipush_m2001 ?_
      exact W.iret (v := zI ((-2001))) hx hb hr (fun tz ht hW => ⟨_, rfl, congrArg zI (Eq.symm (tff (fun q => by omega))), ht⟩) (fun _ h => by cases h) dX7_alteration_30
    · refine lv_iload_n (pc := 18) hx hb dX7_alteration_18 rfl (lv_at hl 3 rfl) ?_
      refine lv_iconst (pc := 19) (v := zI 0) hx hb dX7_alteration_19 rfl ?_
      refine lv_iconst (pc := 20) (v := zI 1) hx hb dX7_alteration_20 rfl ?_
      refine zr_si (pc := 21) (As := [.int (zI (p)), .int (zI (0)), .int (zI (1))]) (rest := []) S (ct_X7_isWithin l D cI cT p 0 1 (by omega) (by decide) (by decide)) (va_cwS 3 hts gX7_alteration_X7_isWithin rfl rfl rfl (by decide +kernel) ⟨Nat.le_of_ble_eq_true rfl, Nat.le_of_ble_eq_true rfl⟩) zs0 hK trivial rfl hl.1 rfl (Nat.le_of_ble_eq_true rfl) dX7_alteration_21 ⟨Nat.le_of_ble_eq_true rfl, Nat.le_of_ble_eq_true rfl⟩ (fun r_21 hr_21 => ?_)
      rcases hr_21 with ⟨hb_21, rfl⟩ | ⟨hb_21, rfl⟩
      · refine zr_if_ne (pc := 24) (tgt := 31) hx hb dX7_alteration_24 (by decide) (by decide) (fun _ => ?_) (fun z => absurd z (by decide))
        have hna := iv_na hI (c := c) (by omega) (by omega)
        refine lv_iload_n (pc := 31) hx hb dX7_alteration_31 rfl (lv_at hl 2 rfl) ?_
        refine lv_aload_n (pc := 32) hx hb dX7_alteration_32 rfl (lv_at hl 0 rfl) ?_
        refine zr_get (pc := 33) S hK hY.1 rfl i_X7 0 (by decide) (List.mem_of_getElem? (i := 1) rfl) rfl dX7_alteration_33 ?_
        refine zr_get (pc := 36) S hK (hP 0 (by decide)) rfl i_X4 0 (by decide) (List.mem_of_getElem? (i := 2) rfl) rfl dX7_alteration_36 ?_
        refine zr_get (pc := 39) S hK (hP 1 (by decide)) rfl i_X6 6 (by decide) (List.mem_of_getElem? (i := 3) rfl) rfl dX7_alteration_39 ?_
        refine lv_iload_n (pc := 42) hx hb dX7_alteration_42 rfl (lv_at hl 1 rfl) ?_
        refine zr_si (pc := 43) (As := [.ref (ad 10), .int (zI (c))]) (rest := [.int (zI (k))]) S (ct_X7_at l D cI cT (ad 10) 16 _ c (gC g c 7) (by decide) (by omega) (by omega) (rl_na hR (by omega) (by omega)) (by omega)) (va_cwS 2 hts gX7_alteration_X7_at rfl rfl rfl (by decide +kernel) ⟨Nat.le_of_ble_eq_true rfl, Nat.le_of_ble_eq_true rfl⟩) zs_ar hK (zAr_of (zK_int hK) (hP 10 (by decide))) rfl hl.1 rfl (Nat.le_of_ble_eq_true rfl) dX7_alteration_43 ⟨Nat.le_of_ble_eq_true rfl, Nat.le_of_ble_eq_true rfl⟩ (fun r_43 hr_43 => ?_)
        subst hr_43
        refine zr_icmp_lt (pc := 46) (tgt := 53) hx hb dX7_alteration_46 (by decide) (by omega) (by omega) (fun c_46 => ?_) (fun c_46 => ?_)
        · refine lv_aload_n (pc := 53) hx hb dX7_alteration_53 rfl (lv_at hl 0 rfl) ?_
          refine zr_get (pc := 54) S hK hY.1 rfl i_X7 0 (by decide) (List.mem_of_getElem? (i := 1) rfl) rfl dX7_alteration_54 ?_
          refine zr_get (pc := 57) S hK (hP 0 (by decide)) rfl i_X4 0 (by decide) (List.mem_of_getElem? (i := 2) rfl) rfl dX7_alteration_57 ?_
          refine lv_iload_n (pc := 60) hx hb dX7_alteration_60 rfl (lv_at hl 1 rfl) ?_
          refine lv_iload_n (pc := 61) hx hb dX7_alteration_61 rfl (lv_at hl 2 rfl) ?_
          refine zr_vi (pc := 62) (As := [.int (zI (c)), .int (zI (k))]) (rest := []) S (ct_X6_placeOf l D cI cT (ad 1) c k) (cwV 2 hts gX7_alteration_X6_placeOf rfl rfl rfl (by decide +kernel) ⟨Nat.le_of_ble_eq_true rfl, Nat.le_of_ble_eq_true rfl⟩) zs0 hK trivial (zr_recv hK (hP 1 (by decide)) rfl) rfl hl.1 rfl (Nat.le_of_ble_eq_true rfl) dX7_alteration_62 ⟨Nat.le_of_ble_eq_true rfl, Nat.le_of_ble_eq_true rfl⟩ (fun r_62 hr_62 => ?_)
          subst hr_62
          refine lv_istore (pc := 65) (lv' := [(4, .int (zI (c * 6 + k))), (0, .ref (ad 120)), (1, .int (zI (c))), (2, .int (zI (k))), (3, .int (zI (p)))]) hx hb dX7_alteration_65 hl (by decide) rfl (fun ls hl => ?_)
          refine lv_iload_n (pc := 67) hx hb dX7_alteration_67 rfl (lv_at hl 4 rfl) ?_
          refine zr_if_ne (pc := 68) (tgt := 84) hx hb dX7_alteration_68 (by decide) (by omega) (fun c_68 => ?_) (fun c_68 => ?_)
          · refine lv_aload_n (pc := 84) hx hb dX7_alteration_84 rfl (lv_at hl 1 rfl) ?_
            refine zr_get (pc := 85) S hK hY.1 rfl i_X7 0 (by decide) (List.mem_of_getElem? (i := 1) rfl) rfl dX7_alteration_85 ?_
            refine zr_get (pc := 88) S hK (hP 0 (by decide)) rfl i_X4 0 (by decide) (List.mem_of_getElem? (i := 2) rfl) rfl dX7_alteration_88 ?_
            refine zr_get (pc := 91) S hK (hP 1 (by decide)) rfl i_X6 8 (by decide) (List.mem_of_getElem? (i := 5) rfl) rfl dX7_alteration_91 ?_
            refine lv_iload (pc := 94) hx hb dX7_alteration_94 (lv_at hl 0 rfl) ?_
            refine zr_si (pc := 96) (As := [.ref (ad 12), .int (zI (c * 6 + k))]) (rest := []) S (ct_X7_at l D cI cT (ad 12) 96 _ (c * 6 + k) (σ 12 (c * 6 + k)) (by decide) (by omega) (by omega) (rfl) (by omega)) (va_cwS 2 hts gX7_alteration_X7_at rfl rfl rfl (by decide +kernel) ⟨Nat.le_of_ble_eq_true rfl, Nat.le_of_ble_eq_true rfl⟩) zs_ar hK (zAr_of (zK_int hK) (hP 12 (by decide))) rfl hl.1 rfl (Nat.le_of_ble_eq_true rfl) dX7_alteration_96 ⟨Nat.le_of_ble_eq_true rfl, Nat.le_of_ble_eq_true rfl⟩ (fun r_96 hr_96 => ?_)
            subst hr_96
            exact W.iret (v := zI (σ 12 (c * 6 + k))) hx hb hr (fun tz ht hW => ⟨_, rfl, congrArg zI (Eq.symm ((tft (by omega)).trans ((tft (by omega)).trans (by first | (rw [rl_am hR (by omega) (by omega) (by omega) (by omega)]; show gC g c _ = gC g c _; congr 1; omega) | (rw [rl_ac hR (by omega) (by omega) (by omega) (by omega)]; show gC g c _ = gC g c _; congr 1; omega))))), ht⟩) (fun _ h => by cases h) dX7_alteration_99
          · refine lv_aload_n (pc := 71) hx hb dX7_alteration_71 rfl (lv_at hl 1 rfl) ?_
            refine zr_get (pc := 72) S hK hY.1 rfl i_X7 0 (by decide) (List.mem_of_getElem? (i := 1) rfl) rfl dX7_alteration_72 ?_
            refine zr_get (pc := 75) S hK (hP 0 (by decide)) rfl i_X4 0 (by decide) (List.mem_of_getElem? (i := 2) rfl) rfl dX7_alteration_75 ?_
            refine zr_get (pc := 78) S hK (hP 1 (by decide)) rfl i_X6 7 (by decide) (List.mem_of_getElem? (i := 4) rfl) rfl dX7_alteration_78 ?_
            refine lv_goto (pc := 81) (tgt := 94) hx hb dX7_alteration_81 (by decide) ?_
            refine lv_iload (pc := 94) hx hb dX7_alteration_94 (lv_at hl 0 rfl) ?_
            refine zr_si (pc := 96) (As := [.ref (ad 11), .int (zI (c * 6 + k))]) (rest := []) S (ct_X7_at l D cI cT (ad 11) 96 _ (c * 6 + k) (σ 11 (c * 6 + k)) (by decide) (by omega) (by omega) (rfl) (by omega)) (va_cwS 2 hts gX7_alteration_X7_at rfl rfl rfl (by decide +kernel) ⟨Nat.le_of_ble_eq_true rfl, Nat.le_of_ble_eq_true rfl⟩) zs_ar hK (zAr_of (zK_int hK) (hP 11 (by decide))) rfl hl.1 rfl (Nat.le_of_ble_eq_true rfl) dX7_alteration_96 ⟨Nat.le_of_ble_eq_true rfl, Nat.le_of_ble_eq_true rfl⟩ (fun r_96 hr_96 => ?_)
            subst hr_96
            exact W.iret (v := zI (σ 11 (c * 6 + k))) hx hb hr (fun tz ht hW => ⟨_, rfl, congrArg zI (Eq.symm ((tft (by omega)).trans ((tft (by omega)).trans (by first | (rw [rl_am hR (by omega) (by omega) (by omega) (by omega)]; show gC g c _ = gC g c _; congr 1; omega) | (rw [rl_ac hR (by omega) (by omega) (by omega) (by omega)]; show gC g c _ = gC g c _; congr 1; omega))))), ht⟩) (fun _ h => by cases h) dX7_alteration_99
        · refine lv_sipush (pc := 49) (v := zI (-2009)) hx hb dX7_alteration_49 zc_sipush_m2009 ?_
          exact W.iret (v := zI ((-2009))) hx hb hr (fun tz ht hW => ⟨_, rfl, congrArg zI (Eq.symm ((tft (by omega)).trans (tff (by omega)))), ht⟩) (fun _ h => by cases h) dX7_alteration_52
      · refine zr_if_ne (pc := 24) (tgt := 31) hx hb dX7_alteration_24 (by decide) (by decide) (fun z => absurd z (by decide)) (fun _ => ?_)
        refine lv_sipush (pc := 27) (v := zI (-2001)) hx hb dX7_alteration_27 zc_sipush_m2001 ?_
        exact W.iret (v := zI ((-2001))) hx hb hr (fun tz ht hW => ⟨_, rfl, congrArg zI (Eq.symm (tff (fun q => by omega))), ht⟩) (fun _ h => by cases h) dX7_alteration_30
  · refine zr_if_eq (pc := 11) (tgt := 27) hx hb dX7_alteration_11 (by decide) (by decide) (fun _ => ?_) (fun z => absurd z (by decide))
    refine lv_sipush (pc := 27) (v := zI (-2001)) hx hb dX7_alteration_27 zc_sipush_m2001 ?_
    exact W.iret (v := zI ((-2001))) hx hb hr (fun tz ht hW => ⟨_, rfl, congrArg zI (Eq.symm (tff (fun q => by omega))), ht⟩) (fun _ h => by cases h) dX7_alteration_30
