set_option maxHeartbeats 4000000 in
set_option maxRecDepth 100000 in
theorem ct_X8_costume (l : Launch) (D : va_G) (cI cT : ClassId) (sz : Nat) (am : Nat → Nat) (μ : Nat → Int → Int) (g : Int → Int) (n : Nat) (hs : Nat → Int → Int) (tl : Int) (tx : Int → Int) (hM : mR μ g n hs tl tx) (hI : Inv g) (hJ : zJ am 5) (c : Int) (k : Int) (r_c : -2147483648 ≤ c ∧ c ≤ 2147483647) (r_k : -2147483648 ≤ k ∧ k ≤ 2147483647) : zMi l yX8_costume wsX8_costume ({ frames := 3, cells := 0, slots := 0, locals := 69 }) D cI cT [.ref (am 0), .int (zI (c)), .int (zI (k))] sz (fun _ H => zW D am 5 (mC cI am μ) H) (fun rr H => rr = zI (qCos g c k) ∧ ∃ (μ' : Nat → Int → Int), mR μ' g n hs tl tx ∧ zW D am 5 (mC cI am μ') H) (zR am 5 sz) := by
  refine Met.ofW (cc := cX8_costume) (maxL := 3) (ret := (some .int)) (by decide) rfl ?_
  intro p_ e_ s m_ args below meth c_ s₁ B hml hv
  obtain ⟨rfl, hsz, hK, hF⟩ := hv
  have hx := B.exec
  have hb := B.bytes
  have hr := B.returns
  have hts := atoms_spec (ws := wsX8_costume) B.pre
  have hown : s.vm.findClass RX8 = some m_.cls := findClass_of_methodNamed B.named
  have hlocks := B.notSynchronized
  have S : CallFix p_ m_ c_ cX8_costume 3 s _ wsX8_costume RX8 := ⟨hx, hb, hml, hown, hts⟩
  have i_X8 : ∀ w ∈ u_ws RX8 TX8 12, w ∈ wsX8_costume := fun _ h => List.mem_cons_of_mem _ (List.mem_append_right _ h)
  subst hsz
  generalize hAe : (zR am 5 s.heap.size) = A
  have hAn : ∀ q : Nat, s.heap.size ≤ q → A q := fun q h => by rw [← hAe]; exact Or.inr h
  obtain ⟨H, hHe⟩ : ∃ H : Heap, H = s.heap := ⟨_, rfl⟩
  rw [← hHe] at hF ⊢
  have hS : va_S A s.heap H [] := by rw [hHe]; exact va_S.rf
  have hP := hF
  have hg := hM.1
  have hAin : ∀ k : Nat, k < 5 → A (am k) := fun k hk => by rw [← hAe]; exact Or.inl ⟨k, hk, rfl⟩
  have hnC := iv_nC hI
  have hnA := iv_nA hI
  have hl := lv_entry ([.ref (am 0), .int (zI (c)), .int (zI (k))]) (n := 3) (Nat.le_of_ble_eq_true rfl)
  rw [lg_entry_eq]
  generalize (lg_sl ([.ref (am 0), .int (zI (c)), .int (zI (k))]) ++ List.replicate (3 - (lg_sl ([.ref (am 0), .int (zI (c)), .int (zI (k))])).length) Slot.unset).toArray = ls at hl ⊢
  have hl : lv_has ls 3 [(0, .ref (am 0)), (1, .int (zI (c))), (2, .int (zI (k)))] := hl
  refine lv_aload_n (pc := 0) hx hb dX8_costume_0 rfl (lv_at hl 0 rfl) ?_
  refine lv_iconst (pc := 1) (v := zI 0) hx hb dX8_costume_1 rfl ?_
  refine zr_put (pc := 2) S hK (hP 0 (by decide)) rfl i_X8 tyX8 tyX8_ok nmX8 0 (by decide) (List.mem_of_getElem? (i := 1) rfl) rfl rfl rfl (Nat.le_of_ble_eq_true rfl) hS (hAin 0 (by decide)) dX8_costume_2 (fun H locs hO hz hk hS => ?_)
  have hP := zW.put hP hJ 0 (by decide) hO hk (mC_0_0 0)
  refine lv_aload_n (pc := 5) hx hb dX8_costume_5 rfl (lv_at hl 0 rfl) ?_
  refine lv_iload_n (pc := 6) hx hb dX8_costume_6 rfl (lv_at hl 1 rfl) ?_
  refine zr_vi (pc := 7) (As := [.int (zI (c))]) (rest := []) S (ct_X8_isCostume l D cI cT am ((su μ 0 0 0)) g (((su_ne (by decide) _ _).trans hg)) hI c (by omega)) (cwV 1 hts gX8_costume_X8_isCostume rfl rfl rfl (by decide +kernel) ⟨Nat.le_of_ble_eq_true rfl, Nat.le_of_ble_eq_true rfl⟩) zs0 hK hP (zr_recv hK (hP 0 (by decide)) rfl) rfl hl.1 rfl (Nat.le_of_ble_eq_true rfl) dX8_costume_7 ⟨Nat.le_of_ble_eq_true rfl, Nat.le_of_ble_eq_true rfl⟩ (fun r_7 hr_7 => ?_)
  rcases hr_7 with ⟨hb_7, rfl⟩ | ⟨hb_7, rfl⟩
  · refine zr_if_eq (pc := 10) (tgt := 25) hx hb dX8_costume_10 (by decide) (by decide) (fun z => absurd z (by decide)) (fun _ => ?_)
    refine lv_iload_n (pc := 13) hx hb dX8_costume_13 rfl (lv_at hl 2 rfl) ?_
    refine zr_i2l (pc := 14) hx hb dX8_costume_14 (by omega) ?_
    refine lv_lconst (pc := 15) (v := zL 0) hx hb dX8_costume_15 rfl ?_
    refine zr_ldc2 (pc := 16) (w := 12) hx hb hown (hts _ (List.mem_of_getElem? (i := 2) rfl)) dX8_costume_16 (by decide +kernel) ?_
    refine zr_si (pc := 19) (As := [.long (zL (k)), .long (zL (0)), .long (zL (12))]) (rest := []) S (ct_X8_in l D cI cT k 0 12 (by omega) (by decide) (by decide)) (va_cwS 3 hts gX8_costume_X8_in rfl rfl rfl (by decide +kernel) ⟨Nat.le_of_ble_eq_true rfl, Nat.le_of_ble_eq_true rfl⟩) zs0 hK trivial rfl hl.1 rfl (Nat.le_of_ble_eq_true rfl) dX8_costume_19 ⟨Nat.le_of_ble_eq_true rfl, Nat.le_of_ble_eq_true rfl⟩ (fun r_19 hr_19 => ?_)
    rcases hr_19 with ⟨hb_19, rfl⟩ | ⟨hb_19, rfl⟩
    · refine zr_if_ne (pc := 22) (tgt := 29) hx hb dX8_costume_22 (by decide) (by decide) (fun _ => ?_) (fun z => absurd z (by decide))
      refine lv_iload_n (pc := 29) hx hb dX8_costume_29 rfl (lv_at hl 2 rfl) ?_
      refine lv_iconst (pc := 30) (v := zI 3) hx hb dX8_costume_30 rfl ?_
      refine zr_icmp_ge (pc := 31) (tgt := 41) hx hb dX8_costume_31 (by decide) (by omega) (by decide) (fun c_31 => ?_) (fun c_31 => ?_)
      · refine lv_iload_n (pc := 41) hx hb dX8_costume_41 rfl (lv_at hl 2 rfl) ?_
        refine lv_bipush (pc := 42) (v := zI 11) hx hb dX8_costume_42 zc_bipush_11 ?_
        refine zr_icmp_ge (pc := 44) (tgt := 58) hx hb dX8_costume_44 (by decide) (by omega) (by decide) (fun c_44 => ?_) (fun c_44 => ?_)
        · refine lv_iload_n (pc := 58) hx hb dX8_costume_58 rfl (lv_at hl 2 rfl) ?_
          refine lv_bipush (pc := 59) (v := zI 11) hx hb dX8_costume_59 zc_bipush_11 ?_
          refine zr_icmp_ne (pc := 61) (tgt := 72) hx hb dX8_costume_61 (by decide) (by omega) (by decide) (fun c_61 => ?_) (fun c_61 => ?_)
          · refine lv_aload_n (pc := 72) hx hb dX8_costume_72 rfl (lv_at hl 0 rfl) ?_
            refine lv_iload_n (pc := 73) hx hb dX8_costume_73 rfl (lv_at hl 1 rfl) ?_
            refine zr_vi (pc := 74) (As := [.int (zI (c))]) (rest := []) S (ct_X8_hiresOf l D cI cT am ((su μ 0 0 0)) g (((su_ne (by decide) _ _).trans hg)) hI c (by omega) (by omega)) (cwV 1 hts gX8_costume_X8_hiresOf rfl rfl rfl (by decide +kernel) ⟨Nat.le_of_ble_eq_true rfl, Nat.le_of_ble_eq_true rfl⟩) zs0 hK hP (zr_recv hK (hP 0 (by decide)) rfl) rfl hl.1 rfl (Nat.le_of_ble_eq_true rfl) dX8_costume_74 ⟨Nat.le_of_ble_eq_true rfl, Nat.le_of_ble_eq_true rfl⟩ (fun r_74 hr_74 => ?_)
            subst hr_74
            exact W.iret (v := zI (hrs g c)) hx hb hr (fun tz ht hW => ⟨⟨zI (hrs g c), zI (hrs g c), rfl, rfl, by dsimp only; rw [ht]; exact ⟨congrArg zI (Eq.symm ((tft (by omega)).trans ((tff (by omega)).trans (by first | exact tft (by omega) | exact (tff (by omega)).trans (tft (by omega)) | exact (tff (by omega)).trans (tff (by omega)))))), _, (mR_sc hM 0 0 (by decide) (by decide)), hP⟩⟩, hS.F ht⟩) hS.2.2 dX8_costume_77
          · refine lv_aload_n (pc := 64) hx hb dX8_costume_64 rfl (lv_at hl 0 rfl) ?_
            refine lv_iload_n (pc := 65) hx hb dX8_costume_65 rfl (lv_at hl 1 rfl) ?_
            refine zr_vi (pc := 66) (As := [.int (zI (c))]) (rest := []) S (ct_X8_scenesOf l D cI cT am ((su μ 0 0 0)) g (((su_ne (by decide) _ _).trans hg)) hI c (by omega) (by omega)) (cwV 1 hts gX8_costume_X8_scenesOf rfl rfl rfl (by decide +kernel) ⟨Nat.le_of_ble_eq_true rfl, Nat.le_of_ble_eq_true rfl⟩) zs0 hK hP (zr_recv hK (hP 0 (by decide)) rfl) rfl hl.1 rfl (Nat.le_of_ble_eq_true rfl) dX8_costume_66 ⟨Nat.le_of_ble_eq_true rfl, Nat.le_of_ble_eq_true rfl⟩ (fun r_66 hr_66 => ?_)
            subst hr_66
            have hs_66 := scn_bd g (c)
            refine lv_goto (pc := 69) (tgt := 77) hx hb dX8_costume_69 (by decide) ?_
            exact W.iret (v := zI (scn g c)) hx hb hr (fun tz ht hW => ⟨⟨zI (scn g c), zI (scn g c), rfl, rfl, by dsimp only; rw [ht]; exact ⟨congrArg zI (Eq.symm ((tft (by omega)).trans ((tff (by omega)).trans (by first | exact tft (by omega) | exact (tff (by omega)).trans (tft (by omega)) | exact (tff (by omega)).trans (tff (by omega)))))), _, (mR_sc hM 0 0 (by decide) (by decide)), hP⟩⟩, hS.F ht⟩) hS.2.2 dX8_costume_77
        · refine lv_aload_n (pc := 47) hx hb dX8_costume_47 rfl (lv_at hl 0 rfl) ?_
          refine lv_iload_n (pc := 48) hx hb dX8_costume_48 rfl (lv_at hl 1 rfl) ?_
          refine lv_iload_n (pc := 49) hx hb dX8_costume_49 rfl (lv_at hl 2 rfl) ?_
          refine lv_iconst (pc := 50) (v := zI 3) hx hb dX8_costume_50 rfl ?_
          refine zr_isub (pc := 51) (d := k - 3) hx hb dX8_costume_51 rfl ?_
          refine zr_vi (pc := 52) (As := [.int (zI (c)), .int (zI (k - 3))]) (rest := []) S (ct_X8_of l D cI cT am ((su μ 0 0 0)) g (((su_ne (by decide) _ _).trans hg)) hI c (k - 3) (by omega) (by omega) (by omega) (by omega)) (cwV 2 hts gX8_costume_X8_of rfl rfl rfl (by decide +kernel) ⟨Nat.le_of_ble_eq_true rfl, Nat.le_of_ble_eq_true rfl⟩) zs0 hK hP (zr_recv hK (hP 0 (by decide)) rfl) rfl hl.1 rfl (Nat.le_of_ble_eq_true rfl) dX8_costume_52 ⟨Nat.le_of_ble_eq_true rfl, Nat.le_of_ble_eq_true rfl⟩ (fun r_52 hr_52 => ?_)
          subst hr_52
          refine lv_goto (pc := 55) (tgt := 77) hx hb dX8_costume_55 (by decide) ?_
          exact W.iret (v := zI (gC g c (k - 3))) hx hb hr (fun tz ht hW => ⟨⟨zI (gC g c (k - 3)), zI (gC g c (k - 3)), rfl, rfl, by dsimp only; rw [ht]; exact ⟨congrArg zI (Eq.symm ((tft (by omega)).trans ((tff (by omega)).trans (by first | exact tft (by omega) | exact (tff (by omega)).trans (tft (by omega)) | exact (tff (by omega)).trans (tff (by omega)))))), _, (mR_sc hM 0 0 (by decide) (by decide)), hP⟩⟩, hS.F ht⟩) hS.2.2 dX8_costume_77
      · refine lv_aload_n (pc := 34) hx hb dX8_costume_34 rfl (lv_at hl 0 rfl) ?_
        refine lv_iload_n (pc := 35) hx hb dX8_costume_35 rfl (lv_at hl 1 rfl) ?_
        refine lv_iload_n (pc := 36) hx hb dX8_costume_36 rfl (lv_at hl 2 rfl) ?_
        refine zr_vi (pc := 37) (As := [.int (zI (c)), .int (zI (k))]) (rest := []) S (ct_X8_present l D cI cT am ((su μ 0 0 0)) g (((su_ne (by decide) _ _).trans hg)) hI c k (by omega) (by omega) (by omega) (by omega)) (cwV 2 hts gX8_costume_X8_present rfl rfl rfl (by decide +kernel) ⟨Nat.le_of_ble_eq_true rfl, Nat.le_of_ble_eq_true rfl⟩) zs0 hK hP (zr_recv hK (hP 0 (by decide)) rfl) rfl hl.1 rfl (Nat.le_of_ble_eq_true rfl) dX8_costume_37 ⟨Nat.le_of_ble_eq_true rfl, Nat.le_of_ble_eq_true rfl⟩ (fun r_37 hr_37 => ?_)
        subst hr_37
        have hp_37 := pres_bd hI (c := c) (m := k) (by omega) (by omega) (by omega) (by omega)
        exact W.iret (v := zI (pres g c k)) hx hb hr (fun tz ht hW => ⟨⟨zI (pres g c k), zI (pres g c k), rfl, rfl, by dsimp only; rw [ht]; exact ⟨congrArg zI (Eq.symm ((tft (by omega)).trans (tft (by omega)))), _, (mR_sc hM 0 0 (by decide) (by decide)), hP⟩⟩, hS.F ht⟩) hS.2.2 dX8_costume_40
    · refine zr_if_ne (pc := 22) (tgt := 29) hx hb dX8_costume_22 (by decide) (by decide) (fun z => absurd z (by decide)) (fun _ => ?_)
      refine lv_sipush (pc := 25) (v := zI (-2001)) hx hb dX8_costume_25 zc_sipush_m2001 ?_
      exact W.iret (v := zI ((-2001))) hx hb hr (fun tz ht hW => ⟨⟨zI ((-2001)), zI ((-2001)), rfl, rfl, by dsimp only; rw [ht]; exact ⟨congrArg zI (Eq.symm (tff (fun q => by omega))), _, (mR_sc hM 0 0 (by decide) (by decide)), hP⟩⟩, hS.F ht⟩) hS.2.2 dX8_costume_28
  · refine zr_if_eq (pc := 10) (tgt := 25) hx hb dX8_costume_10 (by decide) (by decide) (fun _ => ?_) (fun z => absurd z (by decide))
    refine lv_sipush (pc := 25) (v := zI (-2001)) hx hb dX8_costume_25 zc_sipush_m2001 ?_
    exact W.iret (v := zI ((-2001))) hx hb hr (fun tz ht hW => ⟨⟨zI ((-2001)), zI ((-2001)), rfl, rfl, by dsimp only; rw [ht]; exact ⟨congrArg zI (Eq.symm (tff (fun q => by omega))), _, (mR_sc hM 0 0 (by decide) (by decide)), hP⟩⟩, hS.F ht⟩) hS.2.2 dX8_costume_28
set_option maxHeartbeats 4000000 in
set_option maxRecDepth 100000 in
theorem ct_X8_alteration (l : Launch) (D : va_G) (cI cT : ClassId) (sz : Nat) (am : Nat → Nat) (μ : Nat → Int → Int) (g : Int → Int) (n : Nat) (hs : Nat → Int → Int) (tl : Int) (tx : Int → Int) (hM : mR μ g n hs tl tx) (hI : Inv g) (hJ : zJ am 5) (c : Int) (k : Int) (p : Int) (r_c : -2147483648 ≤ c ∧ c ≤ 2147483647) (r_k : -2147483648 ≤ k ∧ k ≤ 2147483647) (r_p : -2147483648 ≤ p ∧ p ≤ 2147483647) : zMi l yX8_alteration wsX8_alteration ({ frames := 2, cells := 0, slots := 0, locals := 46 }) D cI cT [.ref (am 0), .int (zI (c)), .int (zI (k)), .int (zI (p))] sz (fun _ H => zW D am 5 (mC cI am μ) H) (fun rr H => rr = zI (qAlt g c k p) ∧ ∃ (μ' : Nat → Int → Int), mR μ' g n hs tl tx ∧ zW D am 5 (mC cI am μ') H) (zR am 5 sz) := by
  refine Met.ofW (cc := cX8_alteration) (maxL := 4) (ret := (some .int)) (by decide) rfl ?_
  intro p_ e_ s m_ args below meth c_ s₁ B hml hv
  obtain ⟨rfl, hsz, hK, hF⟩ := hv
  have hx := B.exec
  have hb := B.bytes
  have hr := B.returns
  have hts := atoms_spec (ws := wsX8_alteration) B.pre
  have hown : s.vm.findClass RX8 = some m_.cls := findClass_of_methodNamed B.named
  have hlocks := B.notSynchronized
  have S : CallFix p_ m_ c_ cX8_alteration 4 s _ wsX8_alteration RX8 := ⟨hx, hb, hml, hown, hts⟩
  have i_X8 : ∀ w ∈ u_ws RX8 TX8 12, w ∈ wsX8_alteration := fun _ h => List.mem_cons_of_mem _ (List.mem_append_right _ h)
  subst hsz
  generalize hAe : (zR am 5 s.heap.size) = A
  have hAn : ∀ q : Nat, s.heap.size ≤ q → A q := fun q h => by rw [← hAe]; exact Or.inr h
  obtain ⟨H, hHe⟩ : ∃ H : Heap, H = s.heap := ⟨_, rfl⟩
  rw [← hHe] at hF ⊢
  have hS : va_S A s.heap H [] := by rw [hHe]; exact va_S.rf
  have hP := hF
  have hg := hM.1
  have hAin : ∀ k : Nat, k < 5 → A (am k) := fun k hk => by rw [← hAe]; exact Or.inl ⟨k, hk, rfl⟩
  have hnC := iv_nC hI
  have hl := lv_entry ([.ref (am 0), .int (zI (c)), .int (zI (k)), .int (zI (p))]) (n := 4) (Nat.le_of_ble_eq_true rfl)
  rw [lg_entry_eq]
  generalize (lg_sl ([.ref (am 0), .int (zI (c)), .int (zI (k)), .int (zI (p))]) ++ List.replicate (4 - (lg_sl ([.ref (am 0), .int (zI (c)), .int (zI (k)), .int (zI (p))])).length) Slot.unset).toArray = ls at hl ⊢
  have hl : lv_has ls 4 [(0, .ref (am 0)), (1, .int (zI (c))), (2, .int (zI (k))), (3, .int (zI (p)))] := hl
  refine lv_aload_n (pc := 0) hx hb dX8_alteration_0 rfl (lv_at hl 0 rfl) ?_
  refine lv_iconst (pc := 1) (v := zI 0) hx hb dX8_alteration_1 rfl ?_
  refine zr_put (pc := 2) S hK (hP 0 (by decide)) rfl i_X8 tyX8 tyX8_ok nmX8 0 (by decide) (List.mem_of_getElem? (i := 1) rfl) rfl rfl rfl (Nat.le_of_ble_eq_true rfl) hS (hAin 0 (by decide)) dX8_alteration_2 (fun H locs hO hz hk hS => ?_)
  have hP := zW.put hP hJ 0 (by decide) hO hk (mC_0_0 0)
  refine lv_aload_n (pc := 5) hx hb dX8_alteration_5 rfl (lv_at hl 0 rfl) ?_
  refine lv_iload_n (pc := 6) hx hb dX8_alteration_6 rfl (lv_at hl 1 rfl) ?_
  refine zr_vi (pc := 7) (As := [.int (zI (c))]) (rest := []) S (ct_X8_isCostume l D cI cT am ((su μ 0 0 0)) g (((su_ne (by decide) _ _).trans hg)) hI c (by omega)) (cwV 1 hts gX8_alteration_X8_isCostume rfl rfl rfl (by decide +kernel) ⟨Nat.le_of_ble_eq_true rfl, Nat.le_of_ble_eq_true rfl⟩) zs0 hK hP (zr_recv hK (hP 0 (by decide)) rfl) rfl hl.1 rfl (Nat.le_of_ble_eq_true rfl) dX8_alteration_7 ⟨Nat.le_of_ble_eq_true rfl, Nat.le_of_ble_eq_true rfl⟩ (fun r_7 hr_7 => ?_)
  rcases hr_7 with ⟨hb_7, rfl⟩ | ⟨hb_7, rfl⟩
  · refine zr_if_eq (pc := 10) (tgt := 27) hx hb dX8_alteration_10 (by decide) (by decide) (fun z => absurd z (by decide)) (fun _ => ?_)
    refine lv_iload_n (pc := 13) hx hb dX8_alteration_13 rfl (lv_at hl 2 rfl) ?_
    refine zr_if_lt (pc := 14) (tgt := 27) hx hb dX8_alteration_14 (by decide) (by omega) (fun c_14 => ?_) (fun c_14 => ?_)
    · refine lv_sipush (pc := 27) (v := zI (-2001)) hx hb dX8_alteration_27 zc_sipush_m2001 ?_
      exact W.iret (v := zI ((-2001))) hx hb hr (fun tz ht hW => ⟨⟨zI ((-2001)), zI ((-2001)), rfl, rfl, by dsimp only; rw [ht]; exact ⟨congrArg zI (Eq.symm (tff (fun q => by omega))), _, (mR_sc hM 0 0 (by decide) (by decide)), hP⟩⟩, hS.F ht⟩) hS.2.2 dX8_alteration_30
    · refine lv_iload_n (pc := 17) hx hb dX8_alteration_17 rfl (lv_at hl 3 rfl) ?_
      refine zr_i2l (pc := 18) hx hb dX8_alteration_18 (by omega) ?_
      refine lv_lconst (pc := 19) (v := zL 0) hx hb dX8_alteration_19 rfl ?_
      refine lv_lconst (pc := 20) (v := zL 1) hx hb dX8_alteration_20 rfl ?_
      refine zr_si (pc := 21) (As := [.long (zL (p)), .long (zL (0)), .long (zL (1))]) (rest := []) S (ct_X8_in l D cI cT p 0 1 (by omega) (by decide) (by decide)) (va_cwS 3 hts gX8_alteration_X8_in rfl rfl rfl (by decide +kernel) ⟨Nat.le_of_ble_eq_true rfl, Nat.le_of_ble_eq_true rfl⟩) zs0 hK trivial rfl hl.1 rfl (Nat.le_of_ble_eq_true rfl) dX8_alteration_21 ⟨Nat.le_of_ble_eq_true rfl, Nat.le_of_ble_eq_true rfl⟩ (fun r_21 hr_21 => ?_)
      rcases hr_21 with ⟨hb_21, rfl⟩ | ⟨hb_21, rfl⟩
      · refine zr_if_ne (pc := 24) (tgt := 31) hx hb dX8_alteration_24 (by decide) (by decide) (fun _ => ?_) (fun z => absurd z (by decide))
        have hna := iv_na hI (c := c) (by omega) (by omega)
        refine lv_iload_n (pc := 31) hx hb dX8_alteration_31 rfl (lv_at hl 2 rfl) ?_
        refine lv_aload_n (pc := 32) hx hb dX8_alteration_32 rfl (lv_at hl 0 rfl) ?_
        refine lv_iload_n (pc := 33) hx hb dX8_alteration_33 rfl (lv_at hl 1 rfl) ?_
        refine lv_bipush (pc := 34) (v := zI 7) hx hb dX8_alteration_34 zc_bipush_7 ?_
        refine zr_vi (pc := 36) (As := [.int (zI (c)), .int (zI (7))]) (rest := [.int (zI (k))]) S (ct_X8_of l D cI cT am ((su μ 0 0 0)) g (((su_ne (by decide) _ _).trans hg)) hI c 7 (by omega) (by omega) (by omega) (by omega)) (cwV 2 hts gX8_alteration_X8_of rfl rfl rfl (by decide +kernel) ⟨Nat.le_of_ble_eq_true rfl, Nat.le_of_ble_eq_true rfl⟩) zs0 hK hP (zr_recv hK (hP 0 (by decide)) rfl) rfl hl.1 rfl (Nat.le_of_ble_eq_true rfl) dX8_alteration_36 ⟨Nat.le_of_ble_eq_true rfl, Nat.le_of_ble_eq_true rfl⟩ (fun r_36 hr_36 => ?_)
        subst hr_36
        refine zr_icmp_ge (pc := 39) (tgt := 58) hx hb dX8_alteration_39 (by decide) (by omega) (by omega) (fun c_39 => ?_) (fun c_39 => ?_)
        · refine lv_sipush (pc := 58) (v := zI (-2009)) hx hb dX8_alteration_58 zc_sipush_m2009 ?_
          exact W.iret (v := zI ((-2009))) hx hb hr (fun tz ht hW => ⟨⟨zI ((-2009)), zI ((-2009)), rfl, rfl, by dsimp only; rw [ht]; exact ⟨congrArg zI (Eq.symm ((tft (by omega)).trans (by first | exact tft (by omega) | exact tff (by omega)))), _, (mR_sc hM 0 0 (by decide) (by decide)), hP⟩⟩, hS.F ht⟩) hS.2.2 dX8_alteration_61
        · refine lv_aload_n (pc := 42) hx hb dX8_alteration_42 rfl (lv_at hl 0 rfl) ?_
          refine lv_iload_n (pc := 43) hx hb dX8_alteration_43 rfl (lv_at hl 1 rfl) ?_
          refine lv_bipush (pc := 44) (v := zI 8) hx hb dX8_alteration_44 zc_bipush_8 ?_
          refine lv_iconst (pc := 46) (v := zI 2) hx hb dX8_alteration_46 rfl ?_
          refine lv_iload_n (pc := 47) hx hb dX8_alteration_47 rfl (lv_at hl 2 rfl) ?_
          refine zr_imul (pc := 48) (d := 2 * k) hx hb dX8_alteration_48 rfl ?_
          refine zr_iadd (pc := 49) (d := 8 + (2 * k)) hx hb dX8_alteration_49 rfl ?_
          refine lv_iload_n (pc := 50) hx hb dX8_alteration_50 rfl (lv_at hl 3 rfl) ?_
          refine zr_iadd (pc := 51) (d := (8 + (2 * k)) + p) hx hb dX8_alteration_51 rfl ?_
          refine zr_vi (pc := 52) (As := [.int (zI (c)), .int (zI ((8 + (2 * k)) + p))]) (rest := []) S (ct_X8_of l D cI cT am ((su μ 0 0 0)) g (((su_ne (by decide) _ _).trans hg)) hI c ((8 + (2 * k)) + p) (by omega) (by omega) (by omega) (by omega)) (cwV 2 hts gX8_alteration_X8_of rfl rfl rfl (by decide +kernel) ⟨Nat.le_of_ble_eq_true rfl, Nat.le_of_ble_eq_true rfl⟩) zs0 hK hP (zr_recv hK (hP 0 (by decide)) rfl) rfl hl.1 rfl (Nat.le_of_ble_eq_true rfl) dX8_alteration_52 ⟨Nat.le_of_ble_eq_true rfl, Nat.le_of_ble_eq_true rfl⟩ (fun r_52 hr_52 => ?_)
          subst hr_52
          refine lv_goto (pc := 55) (tgt := 61) hx hb dX8_alteration_55 (by decide) ?_
          exact W.iret (v := zI (gC g c ((8 + (2 * k)) + p))) hx hb hr (fun tz ht hW => ⟨⟨zI (gC g c ((8 + (2 * k)) + p)), zI (gC g c ((8 + (2 * k)) + p)), rfl, rfl, by dsimp only; rw [ht]; exact ⟨congrArg zI (Eq.symm ((tft (by omega)).trans (by first | exact tft (by omega) | exact tff (by omega)))), _, (mR_sc hM 0 0 (by decide) (by decide)), hP⟩⟩, hS.F ht⟩) hS.2.2 dX8_alteration_61
      · refine zr_if_ne (pc := 24) (tgt := 31) hx hb dX8_alteration_24 (by decide) (by decide) (fun z => absurd z (by decide)) (fun _ => ?_)
        refine lv_sipush (pc := 27) (v := zI (-2001)) hx hb dX8_alteration_27 zc_sipush_m2001 ?_
        exact W.iret (v := zI ((-2001))) hx hb hr (fun tz ht hW => ⟨⟨zI ((-2001)), zI ((-2001)), rfl, rfl, by dsimp only; rw [ht]; exact ⟨congrArg zI (Eq.symm (tff (fun q => by omega))), _, (mR_sc hM 0 0 (by decide) (by decide)), hP⟩⟩, hS.F ht⟩) hS.2.2 dX8_alteration_30
  · refine zr_if_eq (pc := 10) (tgt := 27) hx hb dX8_alteration_10 (by decide) (by decide) (fun _ => ?_) (fun z => absurd z (by decide))
    refine lv_sipush (pc := 27) (v := zI (-2001)) hx hb dX8_alteration_27 zc_sipush_m2001 ?_
    exact W.iret (v := zI ((-2001))) hx hb hr (fun tz ht hW => ⟨⟨zI ((-2001)), zI ((-2001)), rfl, rfl, by dsimp only; rw [ht]; exact ⟨congrArg zI (Eq.symm (tff (fun q => by omega))), _, (mR_sc hM 0 0 (by decide) (by decide)), hP⟩⟩, hS.F ht⟩) hS.2.2 dX8_alteration_30
set_option maxHeartbeats 4000000 in
set_option maxRecDepth 100000 in
theorem ct_X8_actor (l : Launch) (D : va_G) (cI cT : ClassId) (sz : Nat) (am : Nat → Nat) (μ : Nat → Int → Int) (g : Int → Int) (n : Nat) (hs : Nat → Int → Int) (tl : Int) (tx : Int → Int) (hM : mR μ g n hs tl tx) (hI : Inv g) (hJ : zJ am 5) (a : Int) (k : Int) (r_a : -2147483648 ≤ a ∧ a ≤ 2147483647) (r_k : -2147483648 ≤ k ∧ k ≤ 2147483647) : zMi l yX8_actor wsX8_actor ({ frames := 2, cells := 0, slots := 0, locals := 46 }) D cI cT [.ref (am 0), .int (zI (a)), .int (zI (k))] sz (fun _ H => zW D am 5 (mC cI am μ) H) (fun rr H => rr = zI (qAct g a k) ∧ ∃ (μ' : Nat → Int → Int), mR μ' g n hs tl tx ∧ zW D am 5 (mC cI am μ') H) (zR am 5 sz) := by
  refine Met.ofW (cc := cX8_actor) (maxL := 3) (ret := (some .int)) (by decide) rfl ?_
  intro p_ e_ s m_ args below meth c_ s₁ B hml hv
  obtain ⟨rfl, hsz, hK, hF⟩ := hv
  have hx := B.exec
  have hb := B.bytes
  have hr := B.returns
  have hts := atoms_spec (ws := wsX8_actor) B.pre
  have hown : s.vm.findClass RX8 = some m_.cls := findClass_of_methodNamed B.named
  have hlocks := B.notSynchronized
  have S : CallFix p_ m_ c_ cX8_actor 3 s _ wsX8_actor RX8 := ⟨hx, hb, hml, hown, hts⟩
  have i_X8 : ∀ w ∈ u_ws RX8 TX8 12, w ∈ wsX8_actor := fun _ h => List.mem_cons_of_mem _ (List.mem_append_right _ h)
  subst hsz
  generalize hAe : (zR am 5 s.heap.size) = A
  have hAn : ∀ q : Nat, s.heap.size ≤ q → A q := fun q h => by rw [← hAe]; exact Or.inr h
  obtain ⟨H, hHe⟩ : ∃ H : Heap, H = s.heap := ⟨_, rfl⟩
  rw [← hHe] at hF ⊢
  have hS : va_S A s.heap H [] := by rw [hHe]; exact va_S.rf
  have hP := hF
  have hg := hM.1
  have hAin : ∀ k : Nat, k < 5 → A (am k) := fun k hk => by rw [← hAe]; exact Or.inl ⟨k, hk, rfl⟩
  have hnA := iv_nA hI
  have hl := lv_entry ([.ref (am 0), .int (zI (a)), .int (zI (k))]) (n := 3) (Nat.le_of_ble_eq_true rfl)
  rw [lg_entry_eq]
  generalize (lg_sl ([.ref (am 0), .int (zI (a)), .int (zI (k))]) ++ List.replicate (3 - (lg_sl ([.ref (am 0), .int (zI (a)), .int (zI (k))])).length) Slot.unset).toArray = ls at hl ⊢
  have hl : lv_has ls 3 [(0, .ref (am 0)), (1, .int (zI (a))), (2, .int (zI (k)))] := hl
  refine lv_aload_n (pc := 0) hx hb dX8_actor_0 rfl (lv_at hl 0 rfl) ?_
  refine lv_iconst (pc := 1) (v := zI 0) hx hb dX8_actor_1 rfl ?_
  refine zr_put (pc := 2) S hK (hP 0 (by decide)) rfl i_X8 tyX8 tyX8_ok nmX8 0 (by decide) (List.mem_of_getElem? (i := 1) rfl) rfl rfl rfl (Nat.le_of_ble_eq_true rfl) hS (hAin 0 (by decide)) dX8_actor_2 (fun H locs hO hz hk hS => ?_)
  have hP := zW.put hP hJ 0 (by decide) hO hk (mC_0_0 0)
  refine lv_aload_n (pc := 5) hx hb dX8_actor_5 rfl (lv_at hl 0 rfl) ?_
  refine lv_iload_n (pc := 6) hx hb dX8_actor_6 rfl (lv_at hl 1 rfl) ?_
  refine zr_vi (pc := 7) (As := [.int (zI (a))]) (rest := []) S (ct_X8_isActor l D cI cT am ((su μ 0 0 0)) g (((su_ne (by decide) _ _).trans hg)) hI a (by omega)) (cwV 1 hts gX8_actor_X8_isActor rfl rfl rfl (by decide +kernel) ⟨Nat.le_of_ble_eq_true rfl, Nat.le_of_ble_eq_true rfl⟩) zs0 hK hP (zr_recv hK (hP 0 (by decide)) rfl) rfl hl.1 rfl (Nat.le_of_ble_eq_true rfl) dX8_actor_7 ⟨Nat.le_of_ble_eq_true rfl, Nat.le_of_ble_eq_true rfl⟩ (fun r_7 hr_7 => ?_)
  rcases hr_7 with ⟨hb_7, rfl⟩ | ⟨hb_7, rfl⟩
  · refine zr_if_eq (pc := 10) (tgt := 25) hx hb dX8_actor_10 (by decide) (by decide) (fun z => absurd z (by decide)) (fun _ => ?_)
    refine lv_iload_n (pc := 13) hx hb dX8_actor_13 rfl (lv_at hl 2 rfl) ?_
    refine zr_i2l (pc := 14) hx hb dX8_actor_14 (by omega) ?_
    refine lv_lconst (pc := 15) (v := zL 0) hx hb dX8_actor_15 rfl ?_
    refine zr_ldc2 (pc := 16) (w := 14) hx hb hown (hts _ (List.mem_of_getElem? (i := 2) rfl)) dX8_actor_16 (by decide +kernel) ?_
    refine zr_si (pc := 19) (As := [.long (zL (k)), .long (zL (0)), .long (zL (14))]) (rest := []) S (ct_X8_in l D cI cT k 0 14 (by omega) (by decide) (by decide)) (va_cwS 3 hts gX8_actor_X8_in rfl rfl rfl (by decide +kernel) ⟨Nat.le_of_ble_eq_true rfl, Nat.le_of_ble_eq_true rfl⟩) zs0 hK trivial rfl hl.1 rfl (Nat.le_of_ble_eq_true rfl) dX8_actor_19 ⟨Nat.le_of_ble_eq_true rfl, Nat.le_of_ble_eq_true rfl⟩ (fun r_19 hr_19 => ?_)
    rcases hr_19 with ⟨hb_19, rfl⟩ | ⟨hb_19, rfl⟩
    · refine zr_if_ne (pc := 22) (tgt := 29) hx hb dX8_actor_22 (by decide) (by decide) (fun _ => ?_) (fun z => absurd z (by decide))
      refine lv_iload_n (pc := 29) hx hb dX8_actor_29 rfl (lv_at hl 2 rfl) ?_
      refine lv_iconst (pc := 30) (v := zI 3) hx hb dX8_actor_30 rfl ?_
      refine zr_icmp_ge (pc := 31) (tgt := 43) hx hb dX8_actor_31 (by decide) (by omega) (by decide) (fun c_31 => ?_) (fun c_31 => ?_)
      · refine lv_aload_n (pc := 43) hx hb dX8_actor_43 rfl (lv_at hl 0 rfl) ?_
        refine lv_iload_n (pc := 44) hx hb dX8_actor_44 rfl (lv_at hl 2 rfl) ?_
        refine lv_iconst (pc := 45) (v := zI 3) hx hb dX8_actor_45 rfl ?_
        refine zr_isub (pc := 46) (d := k - 3) hx hb dX8_actor_46 rfl ?_
        refine lv_iload_n (pc := 47) hx hb dX8_actor_47 rfl (lv_at hl 1 rfl) ?_
        refine zr_vi (pc := 48) (As := [.int (zI (k - 3)), .int (zI (a))]) (rest := []) S (ct_X8_worn l D cI cT am ((su μ 0 0 0)) g (((su_ne (by decide) _ _).trans hg)) hI (k - 3) a (by omega) (by omega) (by omega) (by omega)) (cwV 2 hts gX8_actor_X8_worn rfl rfl rfl (by decide +kernel) ⟨Nat.le_of_ble_eq_true rfl, Nat.le_of_ble_eq_true rfl⟩) zs0 hK hP (zr_recv hK (hP 0 (by decide)) rfl) rfl hl.1 rfl (Nat.le_of_ble_eq_true rfl) dX8_actor_48 ⟨Nat.le_of_ble_eq_true rfl, Nat.le_of_ble_eq_true rfl⟩ (fun r_48 hr_48 => ?_)
        subst hr_48
        exact W.iret (v := zI (gW g (k - 3) a)) hx hb hr (fun tz ht hW => ⟨⟨zI (gW g (k - 3) a), zI (gW g (k - 3) a), rfl, rfl, by dsimp only; rw [ht]; exact ⟨congrArg zI (Eq.symm ((tft (by omega)).trans (by first | exact tft (by omega) | exact tff (by omega)))), _, (mR_sc hM 0 0 (by decide) (by decide)), hP⟩⟩, hS.F ht⟩) hS.2.2 dX8_actor_51
      · refine lv_aload_n (pc := 34) hx hb dX8_actor_34 rfl (lv_at hl 0 rfl) ?_
        refine lv_iload_n (pc := 35) hx hb dX8_actor_35 rfl (lv_at hl 1 rfl) ?_
        refine lv_iload_n (pc := 36) hx hb dX8_actor_36 rfl (lv_at hl 2 rfl) ?_
        refine zr_vi (pc := 37) (As := [.int (zI (a)), .int (zI (k))]) (rest := []) S (ct_X8_measureOf l D cI cT am ((su μ 0 0 0)) g (((su_ne (by decide) _ _).trans hg)) hI a k (by omega) (by omega) (by omega) (by omega)) (cwV 2 hts gX8_actor_X8_measureOf rfl rfl rfl (by decide +kernel) ⟨Nat.le_of_ble_eq_true rfl, Nat.le_of_ble_eq_true rfl⟩) zs0 hK hP (zr_recv hK (hP 0 (by decide)) rfl) rfl hl.1 rfl (Nat.le_of_ble_eq_true rfl) dX8_actor_37 ⟨Nat.le_of_ble_eq_true rfl, Nat.le_of_ble_eq_true rfl⟩ (fun r_37 hr_37 => ?_)
        subst hr_37
        refine lv_goto (pc := 40) (tgt := 51) hx hb dX8_actor_40 (by decide) ?_
        exact W.iret (v := zI (gA g a k)) hx hb hr (fun tz ht hW => ⟨⟨zI (gA g a k), zI (gA g a k), rfl, rfl, by dsimp only; rw [ht]; exact ⟨congrArg zI (Eq.symm ((tft (by omega)).trans (by first | exact tft (by omega) | exact tff (by omega)))), _, (mR_sc hM 0 0 (by decide) (by decide)), hP⟩⟩, hS.F ht⟩) hS.2.2 dX8_actor_51
    · refine zr_if_ne (pc := 22) (tgt := 29) hx hb dX8_actor_22 (by decide) (by decide) (fun z => absurd z (by decide)) (fun _ => ?_)
      refine lv_sipush (pc := 25) (v := zI (-2001)) hx hb dX8_actor_25 zc_sipush_m2001 ?_
      exact W.iret (v := zI ((-2001))) hx hb hr (fun tz ht hW => ⟨⟨zI ((-2001)), zI ((-2001)), rfl, rfl, by dsimp only; rw [ht]; exact ⟨congrArg zI (Eq.symm (tff (fun q => by omega))), _, (mR_sc hM 0 0 (by decide) (by decide)), hP⟩⟩, hS.F ht⟩) hS.2.2 dX8_actor_28
  · refine zr_if_eq (pc := 10) (tgt := 25) hx hb dX8_actor_10 (by decide) (by decide) (fun _ => ?_) (fun z => absurd z (by decide))
    refine lv_sipush (pc := 25) (v := zI (-2001)) hx hb dX8_actor_25 zc_sipush_m2001 ?_
    exact W.iret (v := zI ((-2001))) hx hb hr (fun tz ht hW => ⟨⟨zI ((-2001)), zI ((-2001)), rfl, rfl, by dsimp only; rw [ht]; exact ⟨congrArg zI (Eq.symm (tff (fun q => by omega))), _, (mR_sc hM 0 0 (by decide) (by decide)), hP⟩⟩, hS.F ht⟩) hS.2.2 dX8_actor_28
set_option maxHeartbeats 4000000 in
set_option maxRecDepth 100000 in
theorem ct_X8_hired (l : Launch) (D : va_G) (cI cT : ClassId) (sz : Nat) (am : Nat → Nat) (μ : Nat → Int → Int) (g : Int → Int) (n : Nat) (hs : Nat → Int → Int) (tl : Int) (tx : Int → Int) (hM : mR μ g n hs tl tx) (hI : Inv g) (hJ : zJ am 5) (h : Int) (k : Int) (r_h : -2147483648 ≤ h ∧ h ≤ 2147483647) (r_k : -2147483648 ≤ k ∧ k ≤ 2147483647) : zMi l yX8_hired wsX8_hired ({ frames := 1, cells := 0, slots := 0, locals := 25 }) D cI cT [.ref (am 0), .int (zI (h)), .int (zI (k))] sz (fun _ H => zW D am 5 (mC cI am μ) H) (fun rr H => rr = zI (qHir g h k) ∧ ∃ (μ' : Nat → Int → Int), mR μ' g n hs tl tx ∧ zW D am 5 (mC cI am μ') H) (zR am 5 sz) := by
  refine Met.ofW (cc := cX8_hired) (maxL := 3) (ret := (some .int)) (by decide) rfl ?_
  intro p_ e_ s m_ args below meth c_ s₁ B hml hv
  obtain ⟨rfl, hsz, hK, hF⟩ := hv
  have hx := B.exec
  have hb := B.bytes
  have hr := B.returns
  have hts := atoms_spec (ws := wsX8_hired) B.pre
  have hown : s.vm.findClass RX8 = some m_.cls := findClass_of_methodNamed B.named
  have hlocks := B.notSynchronized
  have S : CallFix p_ m_ c_ cX8_hired 3 s _ wsX8_hired RX8 := ⟨hx, hb, hml, hown, hts⟩
  have i_X8 : ∀ w ∈ u_ws RX8 TX8 12, w ∈ wsX8_hired := fun _ h => List.mem_cons_of_mem _ (List.mem_append_right _ h)
  subst hsz
  generalize hAe : (zR am 5 s.heap.size) = A
  have hAn : ∀ q : Nat, s.heap.size ≤ q → A q := fun q h => by rw [← hAe]; exact Or.inr h
  obtain ⟨H, hHe⟩ : ∃ H : Heap, H = s.heap := ⟨_, rfl⟩
  rw [← hHe] at hF ⊢
  have hS : va_S A s.heap H [] := by rw [hHe]; exact va_S.rf
  have hP := hF
  have hg := hM.1
  have hAin : ∀ k : Nat, k < 5 → A (am k) := fun k hk => by rw [← hAe]; exact Or.inl ⟨k, hk, rfl⟩
  have hnH := iv_nH hI
  have hl := lv_entry ([.ref (am 0), .int (zI (h)), .int (zI (k))]) (n := 3) (Nat.le_of_ble_eq_true rfl)
  rw [lg_entry_eq]
  generalize (lg_sl ([.ref (am 0), .int (zI (h)), .int (zI (k))]) ++ List.replicate (3 - (lg_sl ([.ref (am 0), .int (zI (h)), .int (zI (k))])).length) Slot.unset).toArray = ls at hl ⊢
  have hl : lv_has ls 3 [(0, .ref (am 0)), (1, .int (zI (h))), (2, .int (zI (k)))] := hl
  refine lv_aload_n (pc := 0) hx hb dX8_hired_0 rfl (lv_at hl 0 rfl) ?_
  refine lv_iconst (pc := 1) (v := zI 0) hx hb dX8_hired_1 rfl ?_
  refine zr_put (pc := 2) S hK (hP 0 (by decide)) rfl i_X8 tyX8 tyX8_ok nmX8 0 (by decide) (List.mem_of_getElem? (i := 1) rfl) rfl rfl rfl (Nat.le_of_ble_eq_true rfl) hS (hAin 0 (by decide)) dX8_hired_2 (fun H locs hO hz hk hS => ?_)
  have hP := zW.put hP hJ 0 (by decide) hO hk (mC_0_0 0)
  refine lv_iload_n (pc := 5) hx hb dX8_hired_5 rfl (lv_at hl 1 rfl) ?_
  refine zr_i2l (pc := 6) hx hb dX8_hired_6 (by omega) ?_
  refine lv_lconst (pc := 7) (v := zL 0) hx hb dX8_hired_7 rfl ?_
  refine lv_aload_n (pc := 8) hx hb dX8_hired_8 rfl (lv_at hl 0 rfl) ?_
  refine zr_get (pc := 9) S hK (hP 0 (by decide)) rfl i_X8 1 (by decide) (List.mem_of_getElem? (i := 2) rfl) rfl dX8_hired_9 ?_
  refine lv_iconst (pc := 12) (v := zI 2) hx hb dX8_hired_12 rfl ?_
  refine zr_ald (pc := 13) (n := 572) hx hb (zAr_of (zK_int hK) (hP 1 (by decide))) (by decide) (by decide) (by decide) dX8_hired_13 ?_
  refine zr_top (b := g 2) (congrFun ((su_ne (by decide) _ _).trans hg) _) ?_
  refine lv_iconst (pc := 14) (v := zI 1) hx hb dX8_hired_14 rfl ?_
  refine zr_isub (pc := 15) (d := (g 2) - 1) hx hb dX8_hired_15 rfl ?_
  refine zr_i2l (pc := 16) hx hb dX8_hired_16 (by omega) ?_
  refine zr_si (pc := 17) (As := [.long (zL (h)), .long (zL (0)), .long (zL ((g 2) - 1))]) (rest := []) S (ct_X8_in l D cI cT h 0 ((g 2) - 1) (by omega) (by decide) (by omega)) (va_cwS 3 hts gX8_hired_X8_in rfl rfl rfl (by decide +kernel) ⟨Nat.le_of_ble_eq_true rfl, Nat.le_of_ble_eq_true rfl⟩) zs0 hK trivial rfl hl.1 rfl (Nat.le_of_ble_eq_true rfl) dX8_hired_17 ⟨Nat.le_of_ble_eq_true rfl, Nat.le_of_ble_eq_true rfl⟩ (fun r_17 hr_17 => ?_)
  rcases hr_17 with ⟨hb_17, rfl⟩ | ⟨hb_17, rfl⟩
  · refine zr_if_eq (pc := 20) (tgt := 44) hx hb dX8_hired_20 (by decide) (by decide) (fun z => absurd z (by decide)) (fun _ => ?_)
    refine lv_iload_n (pc := 23) hx hb dX8_hired_23 rfl (lv_at hl 2 rfl) ?_
    refine zr_i2l (pc := 24) hx hb dX8_hired_24 (by omega) ?_
    refine lv_lconst (pc := 25) (v := zL 0) hx hb dX8_hired_25 rfl ?_
    refine zr_ldc2 (pc := 26) (w := 3) hx hb hown (hts _ (List.mem_of_getElem? (i := 3) rfl)) dX8_hired_26 (by decide +kernel) ?_
    refine zr_si (pc := 29) (As := [.long (zL (k)), .long (zL (0)), .long (zL (3))]) (rest := []) S (ct_X8_in l D cI cT k 0 3 (by omega) (by decide) (by decide)) (va_cwS 3 hts gX8_hired_X8_in rfl rfl rfl (by decide +kernel) ⟨Nat.le_of_ble_eq_true rfl, Nat.le_of_ble_eq_true rfl⟩) zs0 hK trivial rfl hl.1 rfl (Nat.le_of_ble_eq_true rfl) dX8_hired_29 ⟨Nat.le_of_ble_eq_true rfl, Nat.le_of_ble_eq_true rfl⟩ (fun r_29 hr_29 => ?_)
    rcases hr_29 with ⟨hb_29, rfl⟩ | ⟨hb_29, rfl⟩
    · refine zr_if_eq (pc := 32) (tgt := 44) hx hb dX8_hired_32 (by decide) (by decide) (fun z => absurd z (by decide)) (fun _ => ?_)
      refine lv_aload_n (pc := 35) hx hb dX8_hired_35 rfl (lv_at hl 0 rfl) ?_
      refine lv_iload_n (pc := 36) hx hb dX8_hired_36 rfl (lv_at hl 1 rfl) ?_
      refine lv_iload_n (pc := 37) hx hb dX8_hired_37 rfl (lv_at hl 2 rfl) ?_
      refine zr_vi (pc := 38) (As := [.int (zI (h)), .int (zI (k))]) (rest := []) S (ct_X8_ofHire l D cI cT am ((su μ 0 0 0)) g (((su_ne (by decide) _ _).trans hg)) hI h k (by omega) (by omega) (by omega) (by omega)) (cwV 2 hts gX8_hired_X8_ofHire rfl rfl rfl (by decide +kernel) ⟨Nat.le_of_ble_eq_true rfl, Nat.le_of_ble_eq_true rfl⟩) zs0 hK hP (zr_recv hK (hP 0 (by decide)) rfl) rfl hl.1 rfl (Nat.le_of_ble_eq_true rfl) dX8_hired_38 ⟨Nat.le_of_ble_eq_true rfl, Nat.le_of_ble_eq_true rfl⟩ (fun r_38 hr_38 => ?_)
      subst hr_38
      refine lv_goto (pc := 41) (tgt := 47) hx hb dX8_hired_41 (by decide) ?_
      exact W.iret (v := zI (gH g h k)) hx hb hr (fun tz ht hW => ⟨⟨zI (gH g h k), zI (gH g h k), rfl, rfl, by dsimp only; rw [ht]; exact ⟨congrArg zI (Eq.symm (tft (by omega))), _, (mR_sc hM 0 0 (by decide) (by decide)), hP⟩⟩, hS.F ht⟩) hS.2.2 dX8_hired_47
    · refine zr_if_eq (pc := 32) (tgt := 44) hx hb dX8_hired_32 (by decide) (by decide) (fun _ => ?_) (fun z => absurd z (by decide))
      refine lv_sipush (pc := 44) (v := zI (-2001)) hx hb dX8_hired_44 zc_sipush_m2001 ?_
      exact W.iret (v := zI ((-2001))) hx hb hr (fun tz ht hW => ⟨⟨zI ((-2001)), zI ((-2001)), rfl, rfl, by dsimp only; rw [ht]; exact ⟨congrArg zI (Eq.symm (tff (fun q => by omega))), _, (mR_sc hM 0 0 (by decide) (by decide)), hP⟩⟩, hS.F ht⟩) hS.2.2 dX8_hired_47
  · refine zr_if_eq (pc := 20) (tgt := 44) hx hb dX8_hired_20 (by decide) (by decide) (fun _ => ?_) (fun z => absurd z (by decide))
    refine lv_sipush (pc := 44) (v := zI (-2001)) hx hb dX8_hired_44 zc_sipush_m2001 ?_
    exact W.iret (v := zI ((-2001))) hx hb hr (fun tz ht hW => ⟨⟨zI ((-2001)), zI ((-2001)), rfl, rfl, by dsimp only; rw [ht]; exact ⟨congrArg zI (Eq.symm (tff (fun q => by omega))), _, (mR_sc hM 0 0 (by decide) (by decide)), hP⟩⟩, hS.F ht⟩) hS.2.2 dX8_hired_47
set_option maxHeartbeats 4000000 in
set_option maxRecDepth 100000 in
theorem ct_X8_problems (l : Launch) (D : va_G) (cI cT : ClassId) (sz : Nat) (am : Nat → Nat) (μ : Nat → Int → Int) (g : Int → Int) (n : Nat) (hs : Nat → Int → Int) (tl : Int) (tx : Int → Int) (hM : mR μ g n hs tl tx) (hI : Inv g) (hJ : zJ am 5) (k : Int) (r_k : -2147483648 ≤ k ∧ k ≤ 2147483647) : zMi l yX8_problems wsX8_problems ({ frames := 6, cells := 0, slots := 0, locals := 143 }) D cI cT [.ref (am 0), .int (zI (k))] sz (fun _ H => zW D am 5 (mC cI am μ) H) (fun rr H => rr = zI (qPrb g k) ∧ ∃ (μ' : Nat → Int → Int), mR μ' g n hs tl tx ∧ zW D am 5 (mC cI am μ') H) (zR am 5 sz) := by
  refine Met.ofW (cc := cX8_problems) (maxL := 2) (ret := (some .int)) (by decide) rfl ?_
  intro p_ e_ s m_ args below meth c_ s₁ B hml hv
  obtain ⟨rfl, hsz, hK, hF⟩ := hv
  have hx := B.exec
  have hb := B.bytes
  have hr := B.returns
  have hts := atoms_spec (ws := wsX8_problems) B.pre
  have hown : s.vm.findClass RX8 = some m_.cls := findClass_of_methodNamed B.named
  have hlocks := B.notSynchronized
  have S : CallFix p_ m_ c_ cX8_problems 2 s _ wsX8_problems RX8 := ⟨hx, hb, hml, hown, hts⟩
  have i_X8 : ∀ w ∈ u_ws RX8 TX8 12, w ∈ wsX8_problems := fun _ h => List.mem_cons_of_mem _ (List.mem_append_right _ h)
  subst hsz
  generalize hAe : (zR am 5 s.heap.size) = A
  have hAn : ∀ q : Nat, s.heap.size ≤ q → A q := fun q h => by rw [← hAe]; exact Or.inr h
  obtain ⟨H, hHe⟩ : ∃ H : Heap, H = s.heap := ⟨_, rfl⟩
  rw [← hHe] at hF ⊢
  have hS : va_S A s.heap H [] := by rw [hHe]; exact va_S.rf
  have hP := hF
  have hg := hM.1
  have hAin : ∀ k : Nat, k < 5 → A (am k) := fun k hk => by rw [← hAe]; exact Or.inl ⟨k, hk, rfl⟩
  have hl := lv_entry ([.ref (am 0), .int (zI (k))]) (n := 2) (Nat.le_of_ble_eq_true rfl)
  rw [lg_entry_eq]
  generalize (lg_sl ([.ref (am 0), .int (zI (k))]) ++ List.replicate (2 - (lg_sl ([.ref (am 0), .int (zI (k))])).length) Slot.unset).toArray = ls at hl ⊢
  have hl : lv_has ls 2 [(0, .ref (am 0)), (1, .int (zI (k)))] := hl
  refine lv_aload_n (pc := 0) hx hb dX8_problems_0 rfl (lv_at hl 0 rfl) ?_
  refine lv_iconst (pc := 1) (v := zI 0) hx hb dX8_problems_1 rfl ?_
  refine zr_put (pc := 2) S hK (hP 0 (by decide)) rfl i_X8 tyX8 tyX8_ok nmX8 0 (by decide) (List.mem_of_getElem? (i := 1) rfl) rfl rfl rfl (Nat.le_of_ble_eq_true rfl) hS (hAin 0 (by decide)) dX8_problems_2 (fun H locs hO hz hk hS => ?_)
  have hP := zW.put hP hJ 0 (by decide) hO hk (mC_0_0 0)
  refine lv_iload_n (pc := 5) hx hb dX8_problems_5 rfl (lv_at hl 1 rfl) ?_
  refine zr_i2l (pc := 6) hx hb dX8_problems_6 (by omega) ?_
  refine lv_lconst (pc := 7) (v := zL 0) hx hb dX8_problems_7 rfl ?_
  refine zr_ldc2 (pc := 8) (w := 4) hx hb hown (hts _ (List.mem_of_getElem? (i := 2) rfl)) dX8_problems_8 (by decide +kernel) ?_
  refine zr_si (pc := 11) (As := [.long (zL (k)), .long (zL (0)), .long (zL (4))]) (rest := []) S (ct_X8_in l D cI cT k 0 4 (by omega) (by decide) (by decide)) (va_cwS 3 hts gX8_problems_X8_in rfl rfl rfl (by decide +kernel) ⟨Nat.le_of_ble_eq_true rfl, Nat.le_of_ble_eq_true rfl⟩) zs0 hK trivial rfl hl.1 rfl (Nat.le_of_ble_eq_true rfl) dX8_problems_11 ⟨Nat.le_of_ble_eq_true rfl, Nat.le_of_ble_eq_true rfl⟩ (fun r_11 hr_11 => ?_)
  rcases hr_11 with ⟨hb_11, rfl⟩ | ⟨hb_11, rfl⟩
  · refine zr_if_eq (pc := 14) (tgt := 25) hx hb dX8_problems_14 (by decide) (by decide) (fun z => absurd z (by decide)) (fun _ => ?_)
    refine lv_aload_n (pc := 17) hx hb dX8_problems_17 rfl (lv_at hl 0 rfl) ?_
    refine lv_iload_n (pc := 18) hx hb dX8_problems_18 rfl (lv_at hl 1 rfl) ?_
    refine zr_vi (pc := 19) (As := [.int (zI (k))]) (rest := []) S (ct_X8_problemsOf l D cI cT am ((su μ 0 0 0)) g (((su_ne (by decide) _ _).trans hg)) hI k (by omega) (by omega)) (cwV 1 hts gX8_problems_X8_problemsOf rfl rfl rfl (by decide +kernel) ⟨Nat.le_of_ble_eq_true rfl, Nat.le_of_ble_eq_true rfl⟩) zs0 hK hP (zr_recv hK (hP 0 (by decide)) rfl) rfl hl.1 rfl (Nat.le_of_ble_eq_true rfl) dX8_problems_19 ⟨Nat.le_of_ble_eq_true rfl, Nat.le_of_ble_eq_true rfl⟩ (fun r_19 hr_19 => ?_)
    subst hr_19
    have hpb_19 := prb_bd hI k
    refine lv_goto (pc := 22) (tgt := 28) hx hb dX8_problems_22 (by decide) ?_
    exact W.iret (v := zI (prb g k)) hx hb hr (fun tz ht hW => ⟨⟨zI (prb g k), zI (prb g k), rfl, rfl, by dsimp only; rw [ht]; exact ⟨congrArg zI (Eq.symm (tft (by omega))), _, (mR_sc hM 0 0 (by decide) (by decide)), hP⟩⟩, hS.F ht⟩) hS.2.2 dX8_problems_28
  · refine zr_if_eq (pc := 14) (tgt := 25) hx hb dX8_problems_14 (by decide) (by decide) (fun _ => ?_) (fun z => absurd z (by decide))
    refine lv_sipush (pc := 25) (v := zI (-2001)) hx hb dX8_problems_25 zc_sipush_m2001 ?_
    exact W.iret (v := zI ((-2001))) hx hb hr (fun tz ht hW => ⟨⟨zI ((-2001)), zI ((-2001)), rfl, rfl, by dsimp only; rw [ht]; exact ⟨congrArg zI (Eq.symm (tff (fun q => by omega))), _, (mR_sc hM 0 0 (by decide) (by decide)), hP⟩⟩, hS.F ht⟩) hS.2.2 dX8_problems_28
set_option maxHeartbeats 4000000 in
set_option maxRecDepth 100000 in
theorem ct_X8_misfit (l : Launch) (D : va_G) (cI cT : ClassId) (sz : Nat) (am : Nat → Nat) (μ : Nat → Int → Int) (g : Int → Int) (n : Nat) (hs : Nat → Int → Int) (tl : Int) (tx : Int → Int) (hM : mR μ g n hs tl tx) (hI : Inv g) (hJ : zJ am 5) (c : Int) (a : Int) (r_c : -2147483648 ≤ c ∧ c ≤ 2147483647) (r_a : -2147483648 ≤ a ∧ a ≤ 2147483647) : zMi l yX8_misfit wsX8_misfit ({ frames := 4, cells := 0, slots := 0, locals := 96 }) D cI cT [.ref (am 0), .int (zI (c)), .int (zI (a))] sz (fun _ H => zW D am 5 (mC cI am μ) H) (fun rr H => rr = zI (qMis g c a) ∧ ∃ (μ' : Nat → Int → Int), mR μ' g n hs tl tx ∧ zW D am 5 (mC cI am μ') H) (zR am 5 sz) := by
  refine Met.ofW (cc := cX8_misfit) (maxL := 3) (ret := (some .int)) (by decide) rfl ?_
  intro p_ e_ s m_ args below meth c_ s₁ B hml hv
  obtain ⟨rfl, hsz, hK, hF⟩ := hv
  have hx := B.exec
  have hb := B.bytes
  have hr := B.returns
  have hts := atoms_spec (ws := wsX8_misfit) B.pre
  have hown : s.vm.findClass RX8 = some m_.cls := findClass_of_methodNamed B.named
  have hlocks := B.notSynchronized
  have S : CallFix p_ m_ c_ cX8_misfit 3 s _ wsX8_misfit RX8 := ⟨hx, hb, hml, hown, hts⟩
  have i_X8 : ∀ w ∈ u_ws RX8 TX8 12, w ∈ wsX8_misfit := fun _ h => List.mem_cons_of_mem _ (List.mem_append_right _ h)
  subst hsz
  generalize hAe : (zR am 5 s.heap.size) = A
  have hAn : ∀ q : Nat, s.heap.size ≤ q → A q := fun q h => by rw [← hAe]; exact Or.inr h
  obtain ⟨H, hHe⟩ : ∃ H : Heap, H = s.heap := ⟨_, rfl⟩
  rw [← hHe] at hF ⊢
  have hS : va_S A s.heap H [] := by rw [hHe]; exact va_S.rf
  have hP := hF
  have hg := hM.1
  have hAin : ∀ k : Nat, k < 5 → A (am k) := fun k hk => by rw [← hAe]; exact Or.inl ⟨k, hk, rfl⟩
  have hnC := iv_nC hI
  have hnA := iv_nA hI
  have hl := lv_entry ([.ref (am 0), .int (zI (c)), .int (zI (a))]) (n := 3) (Nat.le_of_ble_eq_true rfl)
  rw [lg_entry_eq]
  generalize (lg_sl ([.ref (am 0), .int (zI (c)), .int (zI (a))]) ++ List.replicate (3 - (lg_sl ([.ref (am 0), .int (zI (c)), .int (zI (a))])).length) Slot.unset).toArray = ls at hl ⊢
  have hl : lv_has ls 3 [(0, .ref (am 0)), (1, .int (zI (c))), (2, .int (zI (a)))] := hl
  refine lv_aload_n (pc := 0) hx hb dX8_misfit_0 rfl (lv_at hl 0 rfl) ?_
  refine lv_iconst (pc := 1) (v := zI 0) hx hb dX8_misfit_1 rfl ?_
  refine zr_put (pc := 2) S hK (hP 0 (by decide)) rfl i_X8 tyX8 tyX8_ok nmX8 0 (by decide) (List.mem_of_getElem? (i := 1) rfl) rfl rfl rfl (Nat.le_of_ble_eq_true rfl) hS (hAin 0 (by decide)) dX8_misfit_2 (fun H locs hO hz hk hS => ?_)
  have hP := zW.put hP hJ 0 (by decide) hO hk (mC_0_0 0)
  refine lv_aload_n (pc := 5) hx hb dX8_misfit_5 rfl (lv_at hl 0 rfl) ?_
  refine lv_iload_n (pc := 6) hx hb dX8_misfit_6 rfl (lv_at hl 1 rfl) ?_
  refine zr_vi (pc := 7) (As := [.int (zI (c))]) (rest := []) S (ct_X8_isCostume l D cI cT am ((su μ 0 0 0)) g (((su_ne (by decide) _ _).trans hg)) hI c (by omega)) (cwV 1 hts gX8_misfit_X8_isCostume rfl rfl rfl (by decide +kernel) ⟨Nat.le_of_ble_eq_true rfl, Nat.le_of_ble_eq_true rfl⟩) zs0 hK hP (zr_recv hK (hP 0 (by decide)) rfl) rfl hl.1 rfl (Nat.le_of_ble_eq_true rfl) dX8_misfit_7 ⟨Nat.le_of_ble_eq_true rfl, Nat.le_of_ble_eq_true rfl⟩ (fun r_7 hr_7 => ?_)
  rcases hr_7 with ⟨hb_7, rfl⟩ | ⟨hb_7, rfl⟩
  · refine zr_if_eq (pc := 10) (tgt := 30) hx hb dX8_misfit_10 (by decide) (by decide) (fun z => absurd z (by decide)) (fun _ => ?_)
    refine lv_aload_n (pc := 13) hx hb dX8_misfit_13 rfl (lv_at hl 0 rfl) ?_
    refine lv_iload_n (pc := 14) hx hb dX8_misfit_14 rfl (lv_at hl 2 rfl) ?_
    refine zr_vi (pc := 15) (As := [.int (zI (a))]) (rest := []) S (ct_X8_isActor l D cI cT am ((su μ 0 0 0)) g (((su_ne (by decide) _ _).trans hg)) hI a (by omega)) (cwV 1 hts gX8_misfit_X8_isActor rfl rfl rfl (by decide +kernel) ⟨Nat.le_of_ble_eq_true rfl, Nat.le_of_ble_eq_true rfl⟩) zs0 hK hP (zr_recv hK (hP 0 (by decide)) rfl) rfl hl.1 rfl (Nat.le_of_ble_eq_true rfl) dX8_misfit_15 ⟨Nat.le_of_ble_eq_true rfl, Nat.le_of_ble_eq_true rfl⟩ (fun r_15 hr_15 => ?_)
    rcases hr_15 with ⟨hb_15, rfl⟩ | ⟨hb_15, rfl⟩
    · refine zr_if_eq (pc := 18) (tgt := 30) hx hb dX8_misfit_18 (by decide) (by decide) (fun z => absurd z (by decide)) (fun _ => ?_)
      refine lv_aload_n (pc := 21) hx hb dX8_misfit_21 rfl (lv_at hl 0 rfl) ?_
      refine lv_iload_n (pc := 22) hx hb dX8_misfit_22 rfl (lv_at hl 1 rfl) ?_
      refine lv_iload_n (pc := 23) hx hb dX8_misfit_23 rfl (lv_at hl 2 rfl) ?_
      refine zr_vi (pc := 24) (As := [.int (zI (c)), .int (zI (a))]) (rest := []) S (ct_X8_misfitOf l D cI cT am ((su μ 0 0 0)) g (((su_ne (by decide) _ _).trans hg)) hI c a (by omega) (by omega) (by omega) (by omega)) (cwV 2 hts gX8_misfit_X8_misfitOf rfl rfl rfl (by decide +kernel) ⟨Nat.le_of_ble_eq_true rfl, Nat.le_of_ble_eq_true rfl⟩) zs0 hK hP (zr_recv hK (hP 0 (by decide)) rfl) rfl hl.1 rfl (Nat.le_of_ble_eq_true rfl) dX8_misfit_24 ⟨Nat.le_of_ble_eq_true rfl, Nat.le_of_ble_eq_true rfl⟩ (fun r_24 hr_24 => ?_)
      subst hr_24
      have hm_24 := mis_bd hI (c := c) (a := a) (by omega) (by omega) (by omega) (by omega)
      refine lv_goto (pc := 27) (tgt := 33) hx hb dX8_misfit_27 (by decide) ?_
      exact W.iret (v := zI (mis g c a)) hx hb hr (fun tz ht hW => ⟨⟨zI (mis g c a), zI (mis g c a), rfl, rfl, by dsimp only; rw [ht]; exact ⟨congrArg zI (Eq.symm (tft (by omega))), _, (mR_sc hM 0 0 (by decide) (by decide)), hP⟩⟩, hS.F ht⟩) hS.2.2 dX8_misfit_33
    · refine zr_if_eq (pc := 18) (tgt := 30) hx hb dX8_misfit_18 (by decide) (by decide) (fun _ => ?_) (fun z => absurd z (by decide))
      refine lv_sipush (pc := 30) (v := zI (-2001)) hx hb dX8_misfit_30 zc_sipush_m2001 ?_
      exact W.iret (v := zI ((-2001))) hx hb hr (fun tz ht hW => ⟨⟨zI ((-2001)), zI ((-2001)), rfl, rfl, by dsimp only; rw [ht]; exact ⟨congrArg zI (Eq.symm (tff (fun q => by omega))), _, (mR_sc hM 0 0 (by decide) (by decide)), hP⟩⟩, hS.F ht⟩) hS.2.2 dX8_misfit_33
  · refine zr_if_eq (pc := 10) (tgt := 30) hx hb dX8_misfit_10 (by decide) (by decide) (fun _ => ?_) (fun z => absurd z (by decide))
    refine lv_sipush (pc := 30) (v := zI (-2001)) hx hb dX8_misfit_30 zc_sipush_m2001 ?_
    exact W.iret (v := zI ((-2001))) hx hb hr (fun tz ht hW => ⟨⟨zI ((-2001)), zI ((-2001)), rfl, rfl, by dsimp only; rw [ht]; exact ⟨congrArg zI (Eq.symm (tff (fun q => by omega))), _, (mR_sc hM 0 0 (by decide) (by decide)), hP⟩⟩, hS.F ht⟩) hS.2.2 dX8_misfit_33
set_option maxHeartbeats 4000000 in
set_option maxRecDepth 100000 in
theorem ct_X8_leastAlteration (l : Launch) (D : va_G) (cI cT : ClassId) (sz : Nat) (am : Nat → Nat) (μ : Nat → Int → Int) (g : Int → Int) (n : Nat) (hs : Nat → Int → Int) (tl : Int) (tx : Int → Int) (hM : mR μ g n hs tl tx) (hI : Inv g) (hJ : zJ am 5) (c : Int) (a : Int) (r_c : -2147483648 ≤ c ∧ c ≤ 2147483647) (r_a : -2147483648 ≤ a ∧ a ≤ 2147483647) : zMi l yX8_leastAlteration wsX8_leastAlteration ({ frames := 4, cells := 0, slots := 0, locals := 98 }) D cI cT [.ref (am 0), .int (zI (c)), .int (zI (a))] sz (fun _ H => zW D am 5 (mC cI am μ) H) (fun rr H => rr = zI (qLst g c a) ∧ ∃ (μ' : Nat → Int → Int), mR μ' g n hs tl tx ∧ zW D am 5 (mC cI am μ') H) (zR am 5 sz) := by
  refine Met.ofW (cc := cX8_leastAlteration) (maxL := 3) (ret := (some .int)) (by decide) rfl ?_
  intro p_ e_ s m_ args below meth c_ s₁ B hml hv
  obtain ⟨rfl, hsz, hK, hF⟩ := hv
  have hx := B.exec
  have hb := B.bytes
  have hr := B.returns
  have hts := atoms_spec (ws := wsX8_leastAlteration) B.pre
  have hown : s.vm.findClass RX8 = some m_.cls := findClass_of_methodNamed B.named
  have hlocks := B.notSynchronized
  have S : CallFix p_ m_ c_ cX8_leastAlteration 3 s _ wsX8_leastAlteration RX8 := ⟨hx, hb, hml, hown, hts⟩
  have i_X8 : ∀ w ∈ u_ws RX8 TX8 12, w ∈ wsX8_leastAlteration := fun _ h => List.mem_cons_of_mem _ (List.mem_append_right _ h)
  subst hsz
  generalize hAe : (zR am 5 s.heap.size) = A
  have hAn : ∀ q : Nat, s.heap.size ≤ q → A q := fun q h => by rw [← hAe]; exact Or.inr h
  obtain ⟨H, hHe⟩ : ∃ H : Heap, H = s.heap := ⟨_, rfl⟩
  rw [← hHe] at hF ⊢
  have hS : va_S A s.heap H [] := by rw [hHe]; exact va_S.rf
  have hP := hF
  have hg := hM.1
  have hAin : ∀ k : Nat, k < 5 → A (am k) := fun k hk => by rw [← hAe]; exact Or.inl ⟨k, hk, rfl⟩
  have hnC := iv_nC hI
  have hnA := iv_nA hI
  have hl := lv_entry ([.ref (am 0), .int (zI (c)), .int (zI (a))]) (n := 3) (Nat.le_of_ble_eq_true rfl)
  rw [lg_entry_eq]
  generalize (lg_sl ([.ref (am 0), .int (zI (c)), .int (zI (a))]) ++ List.replicate (3 - (lg_sl ([.ref (am 0), .int (zI (c)), .int (zI (a))])).length) Slot.unset).toArray = ls at hl ⊢
  have hl : lv_has ls 3 [(0, .ref (am 0)), (1, .int (zI (c))), (2, .int (zI (a)))] := hl
  refine lv_aload_n (pc := 0) hx hb dX8_leastAlteration_0 rfl (lv_at hl 0 rfl) ?_
  refine lv_iconst (pc := 1) (v := zI 0) hx hb dX8_leastAlteration_1 rfl ?_
  refine zr_put (pc := 2) S hK (hP 0 (by decide)) rfl i_X8 tyX8 tyX8_ok nmX8 0 (by decide) (List.mem_of_getElem? (i := 1) rfl) rfl rfl rfl (Nat.le_of_ble_eq_true rfl) hS (hAin 0 (by decide)) dX8_leastAlteration_2 (fun H locs hO hz hk hS => ?_)
  have hP := zW.put hP hJ 0 (by decide) hO hk (mC_0_0 0)
  refine lv_aload_n (pc := 5) hx hb dX8_leastAlteration_5 rfl (lv_at hl 0 rfl) ?_
  refine lv_iload_n (pc := 6) hx hb dX8_leastAlteration_6 rfl (lv_at hl 1 rfl) ?_
  refine zr_vi (pc := 7) (As := [.int (zI (c))]) (rest := []) S (ct_X8_isCostume l D cI cT am ((su μ 0 0 0)) g (((su_ne (by decide) _ _).trans hg)) hI c (by omega)) (cwV 1 hts gX8_leastAlteration_X8_isCostume rfl rfl rfl (by decide +kernel) ⟨Nat.le_of_ble_eq_true rfl, Nat.le_of_ble_eq_true rfl⟩) zs0 hK hP (zr_recv hK (hP 0 (by decide)) rfl) rfl hl.1 rfl (Nat.le_of_ble_eq_true rfl) dX8_leastAlteration_7 ⟨Nat.le_of_ble_eq_true rfl, Nat.le_of_ble_eq_true rfl⟩ (fun r_7 hr_7 => ?_)
  rcases hr_7 with ⟨hb_7, rfl⟩ | ⟨hb_7, rfl⟩
  · refine zr_if_eq (pc := 10) (tgt := 30) hx hb dX8_leastAlteration_10 (by decide) (by decide) (fun z => absurd z (by decide)) (fun _ => ?_)
    refine lv_aload_n (pc := 13) hx hb dX8_leastAlteration_13 rfl (lv_at hl 0 rfl) ?_
    refine lv_iload_n (pc := 14) hx hb dX8_leastAlteration_14 rfl (lv_at hl 2 rfl) ?_
    refine zr_vi (pc := 15) (As := [.int (zI (a))]) (rest := []) S (ct_X8_isActor l D cI cT am ((su μ 0 0 0)) g (((su_ne (by decide) _ _).trans hg)) hI a (by omega)) (cwV 1 hts gX8_leastAlteration_X8_isActor rfl rfl rfl (by decide +kernel) ⟨Nat.le_of_ble_eq_true rfl, Nat.le_of_ble_eq_true rfl⟩) zs0 hK hP (zr_recv hK (hP 0 (by decide)) rfl) rfl hl.1 rfl (Nat.le_of_ble_eq_true rfl) dX8_leastAlteration_15 ⟨Nat.le_of_ble_eq_true rfl, Nat.le_of_ble_eq_true rfl⟩ (fun r_15 hr_15 => ?_)
    rcases hr_15 with ⟨hb_15, rfl⟩ | ⟨hb_15, rfl⟩
    · refine zr_if_eq (pc := 18) (tgt := 30) hx hb dX8_leastAlteration_18 (by decide) (by decide) (fun z => absurd z (by decide)) (fun _ => ?_)
      refine lv_aload_n (pc := 21) hx hb dX8_leastAlteration_21 rfl (lv_at hl 0 rfl) ?_
      refine lv_iload_n (pc := 22) hx hb dX8_leastAlteration_22 rfl (lv_at hl 1 rfl) ?_
      refine lv_iload_n (pc := 23) hx hb dX8_leastAlteration_23 rfl (lv_at hl 2 rfl) ?_
      refine zr_vi (pc := 24) (As := [.int (zI (c)), .int (zI (a))]) (rest := []) S (ct_X8_leastOf l D cI cT am ((su μ 0 0 0)) g (((su_ne (by decide) _ _).trans hg)) hI c a (by omega) (by omega) (by omega) (by omega)) (cwV 2 hts gX8_leastAlteration_X8_leastOf rfl rfl rfl (by decide +kernel) ⟨Nat.le_of_ble_eq_true rfl, Nat.le_of_ble_eq_true rfl⟩) zs0 hK hP (zr_recv hK (hP 0 (by decide)) rfl) rfl hl.1 rfl (Nat.le_of_ble_eq_true rfl) dX8_leastAlteration_24 ⟨Nat.le_of_ble_eq_true rfl, Nat.le_of_ble_eq_true rfl⟩ (fun r_24 hr_24 => ?_)
      subst hr_24
      have hs_24 := lst_bd hI (c := c) (a := a) (by omega) (by omega) (by omega) (by omega)
      refine lv_goto (pc := 27) (tgt := 33) hx hb dX8_leastAlteration_27 (by decide) ?_
      exact W.iret (v := zI (lst g c a)) hx hb hr (fun tz ht hW => ⟨⟨zI (lst g c a), zI (lst g c a), rfl, rfl, by dsimp only; rw [ht]; exact ⟨congrArg zI (Eq.symm (tft (by omega))), _, (mR_sc hM 0 0 (by decide) (by decide)), hP⟩⟩, hS.F ht⟩) hS.2.2 dX8_leastAlteration_33
    · refine zr_if_eq (pc := 18) (tgt := 30) hx hb dX8_leastAlteration_18 (by decide) (by decide) (fun _ => ?_) (fun z => absurd z (by decide))
      refine lv_sipush (pc := 30) (v := zI (-2001)) hx hb dX8_leastAlteration_30 zc_sipush_m2001 ?_
      exact W.iret (v := zI ((-2001))) hx hb hr (fun tz ht hW => ⟨⟨zI ((-2001)), zI ((-2001)), rfl, rfl, by dsimp only; rw [ht]; exact ⟨congrArg zI (Eq.symm (tff (fun q => by omega))), _, (mR_sc hM 0 0 (by decide) (by decide)), hP⟩⟩, hS.F ht⟩) hS.2.2 dX8_leastAlteration_33
  · refine zr_if_eq (pc := 10) (tgt := 30) hx hb dX8_leastAlteration_10 (by decide) (by decide) (fun _ => ?_) (fun z => absurd z (by decide))
    refine lv_sipush (pc := 30) (v := zI (-2001)) hx hb dX8_leastAlteration_30 zc_sipush_m2001 ?_
    exact W.iret (v := zI ((-2001))) hx hb hr (fun tz ht hW => ⟨⟨zI ((-2001)), zI ((-2001)), rfl, rfl, by dsimp only; rw [ht]; exact ⟨congrArg zI (Eq.symm (tff (fun q => by omega))), _, (mR_sc hM 0 0 (by decide) (by decide)), hP⟩⟩, hS.F ht⟩) hS.2.2 dX8_leastAlteration_33
set_option maxHeartbeats 4000000 in
set_option maxRecDepth 100000 in
theorem ct_X8_count (l : Launch) (D : va_G) (cI cT : ClassId) (sz : Nat) (am : Nat → Nat) (μ : Nat → Int → Int) (g : Int → Int) (n : Nat) (hs : Nat → Int → Int) (tl : Int) (tx : Int → Int) (hM : mR μ g n hs tl tx) (hI : Inv g) (hJ : zJ am 5) (k : Int) (r_k : -2147483648 ≤ k ∧ k ≤ 2147483647) : zMi l yX8_count wsX8_count ({ frames := 4, cells := 0, slots := 0, locals := 91 }) D cI cT [.ref (am 0), .int (zI (k))] sz (fun _ H => zW D am 5 (mC cI am μ) H) (fun rr H => rr = zI (qCou g (n : Int) tl k) ∧ ∃ (μ' : Nat → Int → Int), mR μ' g n hs tl tx ∧ zW D am 5 (mC cI am μ') H) (zR am 5 sz) := by
  refine Met.ofW (cc := cX8_count) (maxL := 2) (ret := (some .int)) (by decide) rfl ?_
  intro p_ e_ s m_ args below meth c_ s₁ B hml hv
  obtain ⟨rfl, hsz, hK, hF⟩ := hv
  have hx := B.exec
  have hb := B.bytes
  have hr := B.returns
  have hts := atoms_spec (ws := wsX8_count) B.pre
  have hown : s.vm.findClass RX8 = some m_.cls := findClass_of_methodNamed B.named
  have hlocks := B.notSynchronized
  have S : CallFix p_ m_ c_ cX8_count 2 s _ wsX8_count RX8 := ⟨hx, hb, hml, hown, hts⟩
  have i_X8 : ∀ w ∈ u_ws RX8 TX8 12, w ∈ wsX8_count := fun _ h => List.mem_cons_of_mem _ (List.mem_append_right _ h)
  subst hsz
  generalize hAe : (zR am 5 s.heap.size) = A
  have hAn : ∀ q : Nat, s.heap.size ≤ q → A q := fun q h => by rw [← hAe]; exact Or.inr h
  obtain ⟨H, hHe⟩ : ∃ H : Heap, H = s.heap := ⟨_, rfl⟩
  rw [← hHe] at hF ⊢
  have hS : va_S A s.heap H [] := by rw [hHe]; exact va_S.rf
  have hP := hF
  have hg := hM.1
  have hAin : ∀ k : Nat, k < 5 → A (am k) := fun k hk => by rw [← hAe]; exact Or.inl ⟨k, hk, rfl⟩
  have hnC := iv_nC hI
  have hnA := iv_nA hI
  have hn1 : μ 0 1 = (n : Int) := hM.2.1.2.1
  have htl : μ 0 2 = tl := hM.2.2.1
  have hl := lv_entry ([.ref (am 0), .int (zI (k))]) (n := 2) (Nat.le_of_ble_eq_true rfl)
  rw [lg_entry_eq]
  generalize (lg_sl ([.ref (am 0), .int (zI (k))]) ++ List.replicate (2 - (lg_sl ([.ref (am 0), .int (zI (k))])).length) Slot.unset).toArray = ls at hl ⊢
  have hl : lv_has ls 2 [(0, .ref (am 0)), (1, .int (zI (k)))] := hl
  refine lv_aload_n (pc := 0) hx hb dX8_count_0 rfl (lv_at hl 0 rfl) ?_
  refine lv_iconst (pc := 1) (v := zI 0) hx hb dX8_count_1 rfl ?_
  refine zr_put (pc := 2) S hK (hP 0 (by decide)) rfl i_X8 tyX8 tyX8_ok nmX8 0 (by decide) (List.mem_of_getElem? (i := 1) rfl) rfl rfl rfl (Nat.le_of_ble_eq_true rfl) hS (hAin 0 (by decide)) dX8_count_2 (fun H locs hO hz hk hS => ?_)
  have hP := zW.put hP hJ 0 (by decide) hO hk (mC_0_0 0)
  refine lv_iload_n (pc := 5) hx hb dX8_count_5 rfl (lv_at hl 1 rfl) ?_
  have rg_6 : -2147483648 ≤ k ∧ k ≤ 2147483647 := (by omega)
  by_cases c_6 : k = 0
  · refine lv_tableIn (tgt := 68) (off := 62) hx hb dX8_count_6 (by rw [zi_toInt rg_6, c_6]; decide) (by rw [zi_toInt rg_6, c_6]; decide) (by rw [zi_toInt rg_6, c_6]; rfl) (by decide) ?_
    refine lv_aload_n (pc := 68) hx hb dX8_count_68 rfl (lv_at hl 0 rfl) ?_
    refine zr_get (pc := 69) S hK (hP 0 (by decide)) rfl i_X8 1 (by decide) (List.mem_of_getElem? (i := 2) rfl) rfl dX8_count_69 ?_
    refine lv_iload_n (pc := 72) hx hb dX8_count_72 rfl (lv_at hl 1 rfl) ?_
    refine zr_ald (pc := 73) (n := 572) hx hb (zAr_of (zK_int hK) (hP 1 (by decide))) (by omega) (by omega) (by decide) dX8_count_73 ?_
    refine zr_top (b := g k) (congrFun ((su_ne (by decide) _ _).trans hg) _) ?_
    exact W.iret (v := zI (g k)) hx hb hr (fun tz ht hW => ⟨⟨zI (g k), zI (g k), rfl, rfl, by dsimp only; rw [ht]; exact ⟨congrArg zI (Eq.symm (by unfold qCou; (repeat' split) <;> first | rfl | omega | (exact congrArg g (by omega)))), _, (mR_sc hM 0 0 (by decide) (by decide)), hP⟩⟩, hS.F ht⟩) hS.2.2 dX8_count_74
  have n0_6 := c_6
  by_cases c_6 : k = 1
  · refine lv_tableIn (tgt := 68) (off := 62) hx hb dX8_count_6 (by rw [zi_toInt rg_6, c_6]; decide) (by rw [zi_toInt rg_6, c_6]; decide) (by rw [zi_toInt rg_6, c_6]; rfl) (by decide) ?_
    refine lv_aload_n (pc := 68) hx hb dX8_count_68 rfl (lv_at hl 0 rfl) ?_
    refine zr_get (pc := 69) S hK (hP 0 (by decide)) rfl i_X8 1 (by decide) (List.mem_of_getElem? (i := 2) rfl) rfl dX8_count_69 ?_
    refine lv_iload_n (pc := 72) hx hb dX8_count_72 rfl (lv_at hl 1 rfl) ?_
    refine zr_ald (pc := 73) (n := 572) hx hb (zAr_of (zK_int hK) (hP 1 (by decide))) (by omega) (by omega) (by decide) dX8_count_73 ?_
    refine zr_top (b := g k) (congrFun ((su_ne (by decide) _ _).trans hg) _) ?_
    exact W.iret (v := zI (g k)) hx hb hr (fun tz ht hW => ⟨⟨zI (g k), zI (g k), rfl, rfl, by dsimp only; rw [ht]; exact ⟨congrArg zI (Eq.symm (by unfold qCou; (repeat' split) <;> first | rfl | omega | (exact congrArg g (by omega)))), _, (mR_sc hM 0 0 (by decide) (by decide)), hP⟩⟩, hS.F ht⟩) hS.2.2 dX8_count_74
  have n1_6 := c_6
  by_cases c_6 : k = 2
  · refine lv_tableIn (tgt := 68) (off := 62) hx hb dX8_count_6 (by rw [zi_toInt rg_6, c_6]; decide) (by rw [zi_toInt rg_6, c_6]; decide) (by rw [zi_toInt rg_6, c_6]; rfl) (by decide) ?_
    refine lv_aload_n (pc := 68) hx hb dX8_count_68 rfl (lv_at hl 0 rfl) ?_
    refine zr_get (pc := 69) S hK (hP 0 (by decide)) rfl i_X8 1 (by decide) (List.mem_of_getElem? (i := 2) rfl) rfl dX8_count_69 ?_
    refine lv_iload_n (pc := 72) hx hb dX8_count_72 rfl (lv_at hl 1 rfl) ?_
    refine zr_ald (pc := 73) (n := 572) hx hb (zAr_of (zK_int hK) (hP 1 (by decide))) (by omega) (by omega) (by decide) dX8_count_73 ?_
    refine zr_top (b := g k) (congrFun ((su_ne (by decide) _ _).trans hg) _) ?_
    exact W.iret (v := zI (g k)) hx hb hr (fun tz ht hW => ⟨⟨zI (g k), zI (g k), rfl, rfl, by dsimp only; rw [ht]; exact ⟨congrArg zI (Eq.symm (by unfold qCou; (repeat' split) <;> first | rfl | omega | (exact congrArg g (by omega)))), _, (mR_sc hM 0 0 (by decide) (by decide)), hP⟩⟩, hS.F ht⟩) hS.2.2 dX8_count_74
  have n2_6 := c_6
  by_cases c_6 : k = 3
  · refine lv_tableIn (tgt := 68) (off := 62) hx hb dX8_count_6 (by rw [zi_toInt rg_6, c_6]; decide) (by rw [zi_toInt rg_6, c_6]; decide) (by rw [zi_toInt rg_6, c_6]; rfl) (by decide) ?_
    refine lv_aload_n (pc := 68) hx hb dX8_count_68 rfl (lv_at hl 0 rfl) ?_
    refine zr_get (pc := 69) S hK (hP 0 (by decide)) rfl i_X8 1 (by decide) (List.mem_of_getElem? (i := 2) rfl) rfl dX8_count_69 ?_
    refine lv_iload_n (pc := 72) hx hb dX8_count_72 rfl (lv_at hl 1 rfl) ?_
    refine zr_ald (pc := 73) (n := 572) hx hb (zAr_of (zK_int hK) (hP 1 (by decide))) (by omega) (by omega) (by decide) dX8_count_73 ?_
    refine zr_top (b := g k) (congrFun ((su_ne (by decide) _ _).trans hg) _) ?_
    exact W.iret (v := zI (g k)) hx hb hr (fun tz ht hW => ⟨⟨zI (g k), zI (g k), rfl, rfl, by dsimp only; rw [ht]; exact ⟨congrArg zI (Eq.symm (by unfold qCou; (repeat' split) <;> first | rfl | omega | (exact congrArg g (by omega)))), _, (mR_sc hM 0 0 (by decide) (by decide)), hP⟩⟩, hS.F ht⟩) hS.2.2 dX8_count_74
  have n3_6 := c_6
  by_cases c_6 : k = 4
  · refine lv_tableIn (tgt := 75) (off := 69) hx hb dX8_count_6 (by rw [zi_toInt rg_6, c_6]; decide) (by rw [zi_toInt rg_6, c_6]; decide) (by rw [zi_toInt rg_6, c_6]; rfl) (by decide) ?_
    refine lv_aload_n (pc := 75) hx hb dX8_count_75 rfl (lv_at hl 0 rfl) ?_
    refine zr_vi (pc := 76) (As := []) (rest := []) S (ct_X8_quickChanges l D cI cT am ((su μ 0 0 0)) g (((su_ne (by decide) _ _).trans hg)) hI  ) (cwV 0 hts gX8_count_X8_quickChanges rfl rfl rfl (by decide +kernel) ⟨Nat.le_of_ble_eq_true rfl, Nat.le_of_ble_eq_true rfl⟩) zs0 hK hP (zr_recv hK (hP 0 (by decide)) rfl) rfl hl.1 rfl (Nat.le_of_ble_eq_true rfl) dX8_count_76 ⟨Nat.le_of_ble_eq_true rfl, Nat.le_of_ble_eq_true rfl⟩ (fun r_76 hr_76 => ?_)
    subst hr_76
    exact W.iret (v := zI (qcks g)) hx hb hr (fun tz ht hW => ⟨⟨zI (qcks g), zI (qcks g), rfl, rfl, by dsimp only; rw [ht]; exact ⟨congrArg zI (Eq.symm (by unfold qCou; (repeat' split) <;> first | rfl | omega | (exact congrArg g (by omega)))), _, (mR_sc hM 0 0 (by decide) (by decide)), hP⟩⟩, hS.F ht⟩) hS.2.2 dX8_count_79
  have n4_6 := c_6
  by_cases c_6 : k = 5
  · refine lv_tableIn (tgt := 80) (off := 74) hx hb dX8_count_6 (by rw [zi_toInt rg_6, c_6]; decide) (by rw [zi_toInt rg_6, c_6]; decide) (by rw [zi_toInt rg_6, c_6]; rfl) (by decide) ?_
    refine lv_aload_n (pc := 80) hx hb dX8_count_80 rfl (lv_at hl 0 rfl) ?_
    refine zr_get (pc := 81) S hK (hP 0 (by decide)) rfl i_X8 1 (by decide) (List.mem_of_getElem? (i := 2) rfl) rfl dX8_count_81 ?_
    refine lv_iconst (pc := 84) (v := zI 4) hx hb dX8_count_84 rfl ?_
    refine zr_ald (pc := 85) (n := 572) hx hb (zAr_of (zK_int hK) (hP 1 (by decide))) (by decide) (by decide) (by decide) dX8_count_85 ?_
    refine zr_top (b := g 4) (congrFun ((su_ne (by decide) _ _).trans hg) _) ?_
    exact W.iret (v := zI (g 4)) hx hb hr (fun tz ht hW => ⟨⟨zI (g 4), zI (g 4), rfl, rfl, by dsimp only; rw [ht]; exact ⟨congrArg zI (Eq.symm (by unfold qCou; (repeat' split) <;> first | rfl | omega | (exact congrArg g (by omega)))), _, (mR_sc hM 0 0 (by decide) (by decide)), hP⟩⟩, hS.F ht⟩) hS.2.2 dX8_count_86
  have n5_6 := c_6
  by_cases c_6 : k = 6
  · refine lv_tableIn (tgt := 87) (off := 81) hx hb dX8_count_6 (by rw [zi_toInt rg_6, c_6]; decide) (by rw [zi_toInt rg_6, c_6]; decide) (by rw [zi_toInt rg_6, c_6]; rfl) (by decide) ?_
    refine lv_aload_n (pc := 87) hx hb dX8_count_87 rfl (lv_at hl 0 rfl) ?_
    refine zr_get (pc := 88) S hK (hP 0 (by decide)) rfl i_X8 1 (by decide) (List.mem_of_getElem? (i := 2) rfl) rfl dX8_count_88 ?_
    refine lv_iconst (pc := 91) (v := zI 5) hx hb dX8_count_91 rfl ?_
    refine zr_ald (pc := 92) (n := 572) hx hb (zAr_of (zK_int hK) (hP 1 (by decide))) (by decide) (by decide) (by decide) dX8_count_92 ?_
    refine zr_top (b := g 5) (congrFun ((su_ne (by decide) _ _).trans hg) _) ?_
    exact W.iret (v := zI (g 5)) hx hb hr (fun tz ht hW => ⟨⟨zI (g 5), zI (g 5), rfl, rfl, by dsimp only; rw [ht]; exact ⟨congrArg zI (Eq.symm (by unfold qCou; (repeat' split) <;> first | rfl | omega | (exact congrArg g (by omega)))), _, (mR_sc hM 0 0 (by decide) (by decide)), hP⟩⟩, hS.F ht⟩) hS.2.2 dX8_count_93
  have n6_6 := c_6
  by_cases c_6 : k = 7
  · refine lv_tableIn (tgt := 94) (off := 88) hx hb dX8_count_6 (by rw [zi_toInt rg_6, c_6]; decide) (by rw [zi_toInt rg_6, c_6]; decide) (by rw [zi_toInt rg_6, c_6]; rfl) (by decide) ?_
    refine lv_aload_n (pc := 94) hx hb dX8_count_94 rfl (lv_at hl 0 rfl) ?_
    refine zr_get (pc := 95) S hK (hP 0 (by decide)) rfl i_X8 1 (by decide) (List.mem_of_getElem? (i := 2) rfl) rfl dX8_count_95 ?_
    refine lv_bipush (pc := 98) (v := zI 6) hx hb dX8_count_98 zc_bipush_6 ?_
    refine zr_ald (pc := 100) (n := 572) hx hb (zAr_of (zK_int hK) (hP 1 (by decide))) (by decide) (by decide) (by decide) dX8_count_100 ?_
    refine zr_top (b := g 6) (congrFun ((su_ne (by decide) _ _).trans hg) _) ?_
    exact W.iret (v := zI (g 6)) hx hb hr (fun tz ht hW => ⟨⟨zI (g 6), zI (g 6), rfl, rfl, by dsimp only; rw [ht]; exact ⟨congrArg zI (Eq.symm (by unfold qCou; (repeat' split) <;> first | rfl | omega | (exact congrArg g (by omega)))), _, (mR_sc hM 0 0 (by decide) (by decide)), hP⟩⟩, hS.F ht⟩) hS.2.2 dX8_count_101
  have n7_6 := c_6
  by_cases c_6 : k = 8
  · refine lv_tableIn (tgt := 102) (off := 96) hx hb dX8_count_6 (by rw [zi_toInt rg_6, c_6]; decide) (by rw [zi_toInt rg_6, c_6]; decide) (by rw [zi_toInt rg_6, c_6]; rfl) (by decide) ?_
    refine lv_aload_n (pc := 102) hx hb dX8_count_102 rfl (lv_at hl 0 rfl) ?_
    refine zr_vi (pc := 103) (As := []) (rest := []) S (ct_X8_awayToday l D cI cT am ((su μ 0 0 0)) g (((su_ne (by decide) _ _).trans hg)) hI  ) (cwV 0 hts gX8_count_X8_awayToday rfl rfl rfl (by decide +kernel) ⟨Nat.le_of_ble_eq_true rfl, Nat.le_of_ble_eq_true rfl⟩) zs0 hK hP (zr_recv hK (hP 0 (by decide)) rfl) rfl hl.1 rfl (Nat.le_of_ble_eq_true rfl) dX8_count_103 ⟨Nat.le_of_ble_eq_true rfl, Nat.le_of_ble_eq_true rfl⟩ (fun r_103 hr_103 => ?_)
    subst hr_103
    exact W.iret (v := zI (aset g (g 0).toNat)) hx hb hr (fun tz ht hW => ⟨⟨zI (aset g (g 0).toNat), zI (aset g (g 0).toNat), rfl, rfl, by dsimp only; rw [ht]; exact ⟨congrArg zI (Eq.symm (by unfold qCou; (repeat' split) <;> first | rfl | omega | (exact congrArg g (by omega)))), _, (mR_sc hM 0 0 (by decide) (by decide)), hP⟩⟩, hS.F ht⟩) hS.2.2 dX8_count_106
  have n8_6 := c_6
  by_cases c_6 : k = 9
  · refine lv_tableIn (tgt := 107) (off := 101) hx hb dX8_count_6 (by rw [zi_toInt rg_6, c_6]; decide) (by rw [zi_toInt rg_6, c_6]; decide) (by rw [zi_toInt rg_6, c_6]; rfl) (by decide) ?_
    refine lv_aload_n (pc := 107) hx hb dX8_count_107 rfl (lv_at hl 0 rfl) ?_
    refine zr_get (pc := 108) S hK (hP 0 (by decide)) rfl i_X8 1 (by decide) (List.mem_of_getElem? (i := 2) rfl) rfl dX8_count_108 ?_
    refine lv_bipush (pc := 111) (v := zI 7) hx hb dX8_count_111 zc_bipush_7 ?_
    refine zr_ald (pc := 113) (n := 572) hx hb (zAr_of (zK_int hK) (hP 1 (by decide))) (by decide) (by decide) (by decide) dX8_count_113 ?_
    refine zr_top (b := g 7) (congrFun ((su_ne (by decide) _ _).trans hg) _) ?_
    exact W.iret (v := zI (g 7)) hx hb hr (fun tz ht hW => ⟨⟨zI (g 7), zI (g 7), rfl, rfl, by dsimp only; rw [ht]; exact ⟨congrArg zI (Eq.symm (by unfold qCou; (repeat' split) <;> first | rfl | omega | (exact congrArg g (by omega)))), _, (mR_sc hM 0 0 (by decide) (by decide)), hP⟩⟩, hS.F ht⟩) hS.2.2 dX8_count_114
  have n9_6 := c_6
  by_cases c_6 : k = 10
  · refine lv_tableIn (tgt := 115) (off := 109) hx hb dX8_count_6 (by rw [zi_toInt rg_6, c_6]; decide) (by rw [zi_toInt rg_6, c_6]; decide) (by rw [zi_toInt rg_6, c_6]; rfl) (by decide) ?_
    refine lv_aload_n (pc := 115) hx hb dX8_count_115 rfl (lv_at hl 0 rfl) ?_
    refine zr_get (pc := 116) S hK (hP 0 (by decide)) rfl i_X8 4 (by decide) (List.mem_of_getElem? (i := 3) rfl) rfl dX8_count_116 ?_
    refine zr_top (b := μ 0 1) (by rw [su_s, if_neg (by decide)]) ?_
    exact W.iret (v := zI (μ 0 1)) hx hb hr (fun tz ht hW => ⟨⟨zI (μ 0 1), zI (μ 0 1), rfl, rfl, by dsimp only; rw [ht]; exact ⟨congrArg zI (Eq.symm (by unfold qCou; (repeat' split) <;> first | rfl | omega | (exact congrArg g (by omega)))), _, (mR_sc hM 0 0 (by decide) (by decide)), hP⟩⟩, hS.F ht⟩) hS.2.2 dX8_count_119
  have n10_6 := c_6
  by_cases c_6 : k = 11
  · refine lv_tableIn (tgt := 120) (off := 114) hx hb dX8_count_6 (by rw [zi_toInt rg_6, c_6]; decide) (by rw [zi_toInt rg_6, c_6]; decide) (by rw [zi_toInt rg_6, c_6]; rfl) (by decide) ?_
    refine lv_aload_n (pc := 120) hx hb dX8_count_120 rfl (lv_at hl 0 rfl) ?_
    refine zr_get (pc := 121) S hK (hP 0 (by decide)) rfl i_X8 6 (by decide) (List.mem_of_getElem? (i := 4) rfl) rfl dX8_count_121 ?_
    refine zr_top (b := μ 0 2) (by rw [su_s, if_neg (by decide)]) ?_
    exact W.iret (v := zI (μ 0 2)) hx hb hr (fun tz ht hW => ⟨⟨zI (μ 0 2), zI (μ 0 2), rfl, rfl, by dsimp only; rw [ht]; exact ⟨congrArg zI (Eq.symm (by unfold qCou; (repeat' split) <;> first | rfl | omega | (exact congrArg g (by omega)))), _, (mR_sc hM 0 0 (by decide) (by decide)), hP⟩⟩, hS.F ht⟩) hS.2.2 dX8_count_124
  have n11_6 := c_6
  refine lv_tableOut (pc := 6) (tgt := 125) hx hb dX8_count_6 (by rw [zi_toInt rg_6]; omega) (by decide) ?_
  refine lv_iload_n (pc := 125) hx hb dX8_count_125 rfl (lv_at hl 1 rfl) ?_
  refine zr_i2l (pc := 126) hx hb dX8_count_126 (by omega) ?_
  refine zr_ldc2 (pc := 127) (w := 12) hx hb hown (hts _ (List.mem_of_getElem? (i := 5) rfl)) dX8_count_127 (by decide +kernel) ?_
  refine zr_ldc2 (pc := 130) (w := 15) hx hb hown (hts _ (List.mem_of_getElem? (i := 6) rfl)) dX8_count_130 (by decide +kernel) ?_
  refine zr_si (pc := 133) (As := [.long (zL (k)), .long (zL (12)), .long (zL (15))]) (rest := []) S (ct_X8_in l D cI cT k 12 15 (by omega) (by decide) (by decide)) (va_cwS 3 hts gX8_count_X8_in rfl rfl rfl (by decide +kernel) ⟨Nat.le_of_ble_eq_true rfl, Nat.le_of_ble_eq_true rfl⟩) zs0 hK trivial rfl hl.1 rfl (Nat.le_of_ble_eq_true rfl) dX8_count_133 ⟨Nat.le_of_ble_eq_true rfl, Nat.le_of_ble_eq_true rfl⟩ (fun r_133 hr_133 => ?_)
  rcases hr_133 with ⟨hb_133, rfl⟩ | ⟨hb_133, rfl⟩
  · refine zr_if_eq (pc := 136) (tgt := 154) hx hb dX8_count_136 (by decide) (by decide) (fun z => absurd z (by decide)) (fun _ => ?_)
    refine lv_aload_n (pc := 139) hx hb dX8_count_139 rfl (lv_at hl 0 rfl) ?_
    refine zr_get (pc := 140) S hK (hP 0 (by decide)) rfl i_X8 1 (by decide) (List.mem_of_getElem? (i := 2) rfl) rfl dX8_count_140 ?_
    refine lv_bipush (pc := 143) (v := zI 8) hx hb dX8_count_143 zc_bipush_8 ?_
    refine lv_iload_n (pc := 145) hx hb dX8_count_145 rfl (lv_at hl 1 rfl) ?_
    refine zr_iadd (pc := 146) (d := 8 + k) hx hb dX8_count_146 rfl ?_
    refine lv_bipush (pc := 147) (v := zI 12) hx hb dX8_count_147 zc_bipush_12 ?_
    refine zr_isub (pc := 149) (d := (8 + k) - 12) hx hb dX8_count_149 rfl ?_
    refine zr_ald (pc := 150) (n := 572) hx hb (zAr_of (zK_int hK) (hP 1 (by decide))) (by omega) (by omega) (by decide) dX8_count_150 ?_
    refine zr_top (b := g ((8 + k) - 12)) (congrFun ((su_ne (by decide) _ _).trans hg) _) ?_
    refine lv_goto (pc := 151) (tgt := 157) hx hb dX8_count_151 (by decide) ?_
    exact W.iret (v := zI (g ((8 + k) - 12))) hx hb hr (fun tz ht hW => ⟨⟨zI (g ((8 + k) - 12)), zI (g ((8 + k) - 12)), rfl, rfl, by dsimp only; rw [ht]; exact ⟨congrArg zI (Eq.symm (by unfold qCou; (repeat' split) <;> first | rfl | omega | (exact congrArg g (by omega)))), _, (mR_sc hM 0 0 (by decide) (by decide)), hP⟩⟩, hS.F ht⟩) hS.2.2 dX8_count_157
  · refine zr_if_eq (pc := 136) (tgt := 154) hx hb dX8_count_136 (by decide) (by decide) (fun _ => ?_) (fun z => absurd z (by decide))
    refine lv_sipush (pc := 154) (v := zI (-2001)) hx hb dX8_count_154 zc_sipush_m2001 ?_
    exact W.iret (v := zI ((-2001))) hx hb hr (fun tz ht hW => ⟨⟨zI ((-2001)), zI ((-2001)), rfl, rfl, by dsimp only; rw [ht]; exact ⟨congrArg zI (Eq.symm (by unfold qCou; (repeat' split) <;> first | rfl | omega | (exact congrArg g (by omega)))), _, (mR_sc hM 0 0 (by decide) (by decide)), hP⟩⟩, hS.F ht⟩) hS.2.2 dX8_count_157
set_option maxHeartbeats 4000000 in
set_option maxRecDepth 100000 in
theorem ct_X8_freeFrom (l : Launch) (D : va_G) (cI cT : ClassId) (sz : Nat) (am : Nat → Nat) (μ : Nat → Int → Int) (g : Int → Int) (n : Nat) (hs : Nat → Int → Int) (tl : Int) (tx : Int → Int) (hM : mR μ g n hs tl tx) (hI : Inv g) (hJ : zJ am 5) (c : Int) (n9 : Int) (r_c : -2147483648 ≤ c ∧ c ≤ 2147483647) (r_n9 : -2147483648 ≤ n9 ∧ n9 ≤ 2147483647) : zMi l yX8_freeFrom wsX8_freeFrom ({ frames := 2, cells := 0, slots := 0, locals := 48 }) D cI cT [.ref (am 0), .int (zI (c)), .int (zI (n9))] sz (fun _ H => zW D am 5 (mC cI am μ) H) (fun rr H => rr = zI (qFre g c n9) ∧ ∃ (μ' : Nat → Int → Int), mR μ' g n hs tl tx ∧ zW D am 5 (mC cI am μ') H) (zR am 5 sz) := by
  refine Met.ofW (cc := cX8_freeFrom) (maxL := 4) (ret := (some .int)) (by decide) rfl ?_
  intro p_ e_ s m_ args below meth c_ s₁ B hml hv
  obtain ⟨rfl, hsz, hK, hF⟩ := hv
  have hx := B.exec
  have hb := B.bytes
  have hr := B.returns
  have hts := atoms_spec (ws := wsX8_freeFrom) B.pre
  have hown : s.vm.findClass RX8 = some m_.cls := findClass_of_methodNamed B.named
  have hlocks := B.notSynchronized
  have S : CallFix p_ m_ c_ cX8_freeFrom 4 s _ wsX8_freeFrom RX8 := ⟨hx, hb, hml, hown, hts⟩
  have i_X8 : ∀ w ∈ u_ws RX8 TX8 12, w ∈ wsX8_freeFrom := fun _ h => List.mem_cons_of_mem _ (List.mem_append_right _ h)
  subst hsz
  generalize hAe : (zR am 5 s.heap.size) = A
  have hAn : ∀ q : Nat, s.heap.size ≤ q → A q := fun q h => by rw [← hAe]; exact Or.inr h
  obtain ⟨H, hHe⟩ : ∃ H : Heap, H = s.heap := ⟨_, rfl⟩
  rw [← hHe] at hF ⊢
  have hS : va_S A s.heap H [] := by rw [hHe]; exact va_S.rf
  have hP := hF
  have hg := hM.1
  have hAin : ∀ k : Nat, k < 5 → A (am k) := fun k hk => by rw [← hAe]; exact Or.inl ⟨k, hk, rfl⟩
  have hnC := iv_nC hI
  have hto := iv_to hI
  have hl := lv_entry ([.ref (am 0), .int (zI (c)), .int (zI (n9))]) (n := 4) (Nat.le_of_ble_eq_true rfl)
  rw [lg_entry_eq]
  generalize (lg_sl ([.ref (am 0), .int (zI (c)), .int (zI (n9))]) ++ List.replicate (4 - (lg_sl ([.ref (am 0), .int (zI (c)), .int (zI (n9))])).length) Slot.unset).toArray = ls at hl ⊢
  have hl : lv_has ls 4 [(0, .ref (am 0)), (1, .int (zI (c))), (2, .int (zI (n9)))] := hl
  refine lv_aload_n (pc := 0) hx hb dX8_freeFrom_0 rfl (lv_at hl 0 rfl) ?_
  refine lv_iconst (pc := 1) (v := zI 0) hx hb dX8_freeFrom_1 rfl ?_
  refine zr_put (pc := 2) S hK (hP 0 (by decide)) rfl i_X8 tyX8 tyX8_ok nmX8 0 (by decide) (List.mem_of_getElem? (i := 1) rfl) rfl rfl rfl (Nat.le_of_ble_eq_true rfl) hS (hAin 0 (by decide)) dX8_freeFrom_2 (fun H locs hO hz hk hS => ?_)
  have hP := zW.put hP hJ 0 (by decide) hO hk (mC_0_0 0)
  refine lv_aload_n (pc := 5) hx hb dX8_freeFrom_5 rfl (lv_at hl 0 rfl) ?_
  refine lv_iload_n (pc := 6) hx hb dX8_freeFrom_6 rfl (lv_at hl 1 rfl) ?_
  refine zr_vi (pc := 7) (As := [.int (zI (c))]) (rest := []) S (ct_X8_isCostume l D cI cT am ((su μ 0 0 0)) g (((su_ne (by decide) _ _).trans hg)) hI c (by omega)) (cwV 1 hts gX8_freeFrom_X8_isCostume rfl rfl rfl (by decide +kernel) ⟨Nat.le_of_ble_eq_true rfl, Nat.le_of_ble_eq_true rfl⟩) zs0 hK hP (zr_recv hK (hP 0 (by decide)) rfl) rfl hl.1 rfl (Nat.le_of_ble_eq_true rfl) dX8_freeFrom_7 ⟨Nat.le_of_ble_eq_true rfl, Nat.le_of_ble_eq_true rfl⟩ (fun r_7 hr_7 => ?_)
  rcases hr_7 with ⟨hb_7, rfl⟩ | ⟨hb_7, rfl⟩
  · refine zr_if_eq (pc := 10) (tgt := 25) hx hb dX8_freeFrom_10 (by decide) (by decide) (fun z => absurd z (by decide)) (fun _ => ?_)
    refine lv_iload_n (pc := 13) hx hb dX8_freeFrom_13 rfl (lv_at hl 2 rfl) ?_
    refine zr_i2l (pc := 14) hx hb dX8_freeFrom_14 (by omega) ?_
    refine lv_lconst (pc := 15) (v := zL 1) hx hb dX8_freeFrom_15 rfl ?_
    refine zr_ldc2 (pc := 16) (w := 60) hx hb hown (hts _ (List.mem_of_getElem? (i := 2) rfl)) dX8_freeFrom_16 (by decide +kernel) ?_
    refine zr_si (pc := 19) (As := [.long (zL (n9)), .long (zL (1)), .long (zL (60))]) (rest := []) S (ct_X8_in l D cI cT n9 1 60 (by omega) (by decide) (by decide)) (va_cwS 3 hts gX8_freeFrom_X8_in rfl rfl rfl (by decide +kernel) ⟨Nat.le_of_ble_eq_true rfl, Nat.le_of_ble_eq_true rfl⟩) zs0 hK trivial rfl hl.1 rfl (Nat.le_of_ble_eq_true rfl) dX8_freeFrom_19 ⟨Nat.le_of_ble_eq_true rfl, Nat.le_of_ble_eq_true rfl⟩ (fun r_19 hr_19 => ?_)
    rcases hr_19 with ⟨hb_19, rfl⟩ | ⟨hb_19, rfl⟩
    · refine zr_if_ne (pc := 22) (tgt := 29) hx hb dX8_freeFrom_22 (by decide) (by decide) (fun _ => ?_) (fun z => absurd z (by decide))
      refine lv_aload_n (pc := 29) hx hb dX8_freeFrom_29 rfl (lv_at hl 0 rfl) ?_
      refine zr_get (pc := 30) S hK (hP 0 (by decide)) rfl i_X8 1 (by decide) (List.mem_of_getElem? (i := 3) rfl) rfl dX8_freeFrom_30 ?_
      refine lv_iconst (pc := 33) (v := zI 3) hx hb dX8_freeFrom_33 rfl ?_
      refine zr_ald (pc := 34) (n := 572) hx hb (zAr_of (zK_int hK) (hP 1 (by decide))) (by decide) (by decide) (by decide) dX8_freeFrom_34 ?_
      refine zr_top (b := g 3) (congrFun ((su_ne (by decide) _ _).trans hg) _) ?_
      refine lv_istore_n (pc := 35) (lv' := [(3, .int (zI (g 3))), (0, .ref (am 0)), (1, .int (zI (c))), (2, .int (zI (n9)))]) hx hb dX8_freeFrom_35 rfl hl (by decide) rfl (fun ls hl => ?_)
      refine zr_loop1 (fun (d : Int) => (g 3 ≤ d ∧ d ≤ 360) ∧ (∀ x : Int, g 3 ≤ x → x < d → awy g c x n9)) (fun (d : Int) => (361 - d).toNat) (fun (d : Int) => [(0, .ref (am 0)), (1, .int (zI (c))), (2, .int (zI (n9))), (3, .int (zI (d)))]) ?_ (g 3) (⟨by omega, fun x x0 x1 => absurd x1 (by omega)⟩) (lv_sub hl [1, 2, 3, 0] rfl)
      intro d hinv ih_36 ls hl
      obtain ⟨h_d, h_w⟩ := hinv
      refine lv_aload_n (pc := 36) hx hb dX8_freeFrom_36 rfl (lv_at hl 0 rfl) ?_
      refine lv_iload_n (pc := 37) hx hb dX8_freeFrom_37 rfl (lv_at hl 1 rfl) ?_
      refine lv_iload_n (pc := 38) hx hb dX8_freeFrom_38 rfl (lv_at hl 3 rfl) ?_
      refine lv_iload_n (pc := 39) hx hb dX8_freeFrom_39 rfl (lv_at hl 2 rfl) ?_
      refine zr_vi (pc := 40) (As := [.int (zI (c)), .int (zI (d)), .int (zI (n9))]) (rest := []) S (ct_X8_isAwayIn l D cI cT am ((su μ 0 0 0)) g (((su_ne (by decide) _ _).trans hg)) hI c d n9 (by omega) (by omega) (by omega) (by omega) (by omega) (by omega)) (cwV 3 hts gX8_freeFrom_X8_isAwayIn rfl rfl rfl (by decide +kernel) ⟨Nat.le_of_ble_eq_true rfl, Nat.le_of_ble_eq_true rfl⟩) zs0 hK hP (zr_recv hK (hP 0 (by decide)) rfl) rfl hl.1 rfl (Nat.le_of_ble_eq_true rfl) dX8_freeFrom_40 ⟨Nat.le_of_ble_eq_true rfl, Nat.le_of_ble_eq_true rfl⟩ (fun r_40 hr_40 => ?_)
      rcases hr_40 with ⟨hb_40, rfl⟩ | ⟨hb_40, rfl⟩
      · refine zr_if_eq (pc := 43) (tgt := 52) hx hb dX8_freeFrom_43 (by decide) (by decide) (fun z => absurd z (by decide)) (fun _ => ?_)
        refine zr_iinc (pc := 46) (d := d + 1) (lv' := [(3, .int (zI (d + 1))), (0, .ref (am 0)), (1, .int (zI (c))), (2, .int (zI (n9)))]) hx hb dX8_freeFrom_46 hl (k := 3) rfl rfl (by decide) rfl (fun ls hl => ?_)
        refine lv_goto (pc := 49) (tgt := 36) hx hb dX8_freeFrom_49 (by decide) ?_
        exact ih_36 (d + 1) (⟨by obtain ⟨b, b0, b1, b2⟩ := hb_40; have hv := iv_hi hI b0 b1; have b3 := b2.2.2; omega, fun x x0 x1 => by rcases Int.lt_or_le x d with q | q <;> first | exact h_w x x0 q | (have e : x = d := (by omega); subst e; exact hb_40)⟩) (by omega) ls (lv_sub hl [1, 2, 3, 0] rfl)
      · refine zr_if_eq (pc := 43) (tgt := 52) hx hb dX8_freeFrom_43 (by decide) (by decide) (fun _ => ?_) (fun z => absurd z (by decide))
        refine lv_iload_n (pc := 52) hx hb dX8_freeFrom_52 rfl (lv_at hl 3 rfl) ?_
        exact W.iret (v := zI (d)) hx hb hr (fun tz ht hW => ⟨⟨zI (d), zI (d), rfl, rfl, by dsimp only; rw [ht]; exact ⟨congrArg zI (Eq.symm ((tft (by omega)).trans (ffd_of ⟨h_d.1, hb_40, h_w⟩))), _, (mR_sc hM 0 0 (by decide) (by decide)), hP⟩⟩, hS.F ht⟩) hS.2.2 dX8_freeFrom_53
    · refine zr_if_ne (pc := 22) (tgt := 29) hx hb dX8_freeFrom_22 (by decide) (by decide) (fun z => absurd z (by decide)) (fun _ => ?_)
      refine lv_sipush (pc := 25) (v := zI (-2001)) hx hb dX8_freeFrom_25 zc_sipush_m2001 ?_
      exact W.iret (v := zI ((-2001))) hx hb hr (fun tz ht hW => ⟨⟨zI ((-2001)), zI ((-2001)), rfl, rfl, by dsimp only; rw [ht]; exact ⟨congrArg zI (Eq.symm (tff (fun q => by omega))), _, (mR_sc hM 0 0 (by decide) (by decide)), hP⟩⟩, hS.F ht⟩) hS.2.2 dX8_freeFrom_28
  · refine zr_if_eq (pc := 10) (tgt := 25) hx hb dX8_freeFrom_10 (by decide) (by decide) (fun _ => ?_) (fun z => absurd z (by decide))
    refine lv_sipush (pc := 25) (v := zI (-2001)) hx hb dX8_freeFrom_25 zc_sipush_m2001 ?_
    exact W.iret (v := zI ((-2001))) hx hb hr (fun tz ht hW => ⟨⟨zI ((-2001)), zI ((-2001)), rfl, rfl, by dsimp only; rw [ht]; exact ⟨congrArg zI (Eq.symm (tff (fun q => by omega))), _, (mR_sc hM 0 0 (by decide) (by decide)), hP⟩⟩, hS.F ht⟩) hS.2.2 dX8_freeFrom_28
set_option maxHeartbeats 4000000 in
set_option maxRecDepth 100000 in
theorem ct_X8_washable (l : Launch) (D : va_G) (cI cT : ClassId) (sz : Nat) (am : Nat → Nat) (μ : Nat → Int → Int) (g : Int → Int) (n : Nat) (hs : Nat → Int → Int) (tl : Int) (tx : Int → Int) (hM : mR μ g n hs tl tx) (hI : Inv g) (hJ : zJ am 5) (p : Int) (q : Int) (r_p : -2147483648 ≤ p ∧ p ≤ 2147483647) (r_q : -2147483648 ≤ q ∧ q ≤ 2147483647) : zMi l yX8_washable wsX8_washable ({ frames := 3, cells := 0, slots := 0, locals := 69 }) D cI cT [.ref (am 0), .int (zI (p)), .int (zI (q))] sz (fun _ H => zW D am 5 (mC cI am μ) H) (fun rr H => rr = zI (qWas g p q) ∧ ∃ (μ' : Nat → Int → Int), mR μ' g n hs tl tx ∧ zW D am 5 (mC cI am μ') H) (zR am 5 sz) := by
  refine Met.ofW (cc := cX8_washable) (maxL := 6) (ret := (some .int)) (by decide) rfl ?_
  intro p_ e_ s m_ args below meth c_ s₁ B hml hv
  obtain ⟨rfl, hsz, hK, hF⟩ := hv
  have hx := B.exec
  have hb := B.bytes
  have hr := B.returns
  have hts := atoms_spec (ws := wsX8_washable) B.pre
  have hown : s.vm.findClass RX8 = some m_.cls := findClass_of_methodNamed B.named
  have hlocks := B.notSynchronized
  have S : CallFix p_ m_ c_ cX8_washable 6 s _ wsX8_washable RX8 := ⟨hx, hb, hml, hown, hts⟩
  have i_X8 : ∀ w ∈ u_ws RX8 TX8 12, w ∈ wsX8_washable := fun _ h => List.mem_cons_of_mem _ (List.mem_append_right _ h)
  subst hsz
  generalize hAe : (zR am 5 s.heap.size) = A
  have hAn : ∀ q : Nat, s.heap.size ≤ q → A q := fun q h => by rw [← hAe]; exact Or.inr h
  obtain ⟨H, hHe⟩ : ∃ H : Heap, H = s.heap := ⟨_, rfl⟩
  rw [← hHe] at hF ⊢
  have hS : va_S A s.heap H [] := by rw [hHe]; exact va_S.rf
  have hP := hF
  have hg := hM.1
  have hAin : ∀ k : Nat, k < 5 → A (am k) := fun k hk => by rw [← hAe]; exact Or.inl ⟨k, hk, rfl⟩
  have hnC := iv_nC hI
  have hl := lv_entry ([.ref (am 0), .int (zI (p)), .int (zI (q))]) (n := 6) (Nat.le_of_ble_eq_true rfl)
  rw [lg_entry_eq]
  generalize (lg_sl ([.ref (am 0), .int (zI (p)), .int (zI (q))]) ++ List.replicate (6 - (lg_sl ([.ref (am 0), .int (zI (p)), .int (zI (q))])).length) Slot.unset).toArray = ls at hl ⊢
  have hl : lv_has ls 6 [(0, .ref (am 0)), (1, .int (zI (p))), (2, .int (zI (q)))] := hl
  refine lv_aload_n (pc := 0) hx hb dX8_washable_0 rfl (lv_at hl 0 rfl) ?_
  refine lv_iconst (pc := 1) (v := zI 0) hx hb dX8_washable_1 rfl ?_
  refine zr_put (pc := 2) S hK (hP 0 (by decide)) rfl i_X8 tyX8 tyX8_ok nmX8 0 (by decide) (List.mem_of_getElem? (i := 1) rfl) rfl rfl rfl (Nat.le_of_ble_eq_true rfl) hS (hAin 0 (by decide)) dX8_washable_2 (fun H locs hO hz hk hS => ?_)
  have hP := zW.put hP hJ 0 (by decide) hO hk (mC_0_0 0)
  refine lv_iload_n (pc := 5) hx hb dX8_washable_5 rfl (lv_at hl 1 rfl) ?_
  refine zr_i2l (pc := 6) hx hb dX8_washable_6 (by omega) ?_
  refine lv_lconst (pc := 7) (v := zL 0) hx hb dX8_washable_7 rfl ?_
  refine zr_ldc2 (pc := 8) (w := 3) hx hb hown (hts _ (List.mem_of_getElem? (i := 2) rfl)) dX8_washable_8 (by decide +kernel) ?_
  refine zr_si (pc := 11) (As := [.long (zL (p)), .long (zL (0)), .long (zL (3))]) (rest := []) S (ct_X8_in l D cI cT p 0 3 (by omega) (by decide) (by decide)) (va_cwS 3 hts gX8_washable_X8_in rfl rfl rfl (by decide +kernel) ⟨Nat.le_of_ble_eq_true rfl, Nat.le_of_ble_eq_true rfl⟩) zs0 hK trivial rfl hl.1 rfl (Nat.le_of_ble_eq_true rfl) dX8_washable_11 ⟨Nat.le_of_ble_eq_true rfl, Nat.le_of_ble_eq_true rfl⟩ (fun r_11 hr_11 => ?_)
  rcases hr_11 with ⟨hb_11, rfl⟩ | ⟨hb_11, rfl⟩
  · refine zr_if_eq (pc := 14) (tgt := 27) hx hb dX8_washable_14 (by decide) (by decide) (fun z => absurd z (by decide)) (fun _ => ?_)
    refine lv_iload_n (pc := 17) hx hb dX8_washable_17 rfl (lv_at hl 2 rfl) ?_
    refine zr_i2l (pc := 18) hx hb dX8_washable_18 (by omega) ?_
    refine lv_lconst (pc := 19) (v := zL 0) hx hb dX8_washable_19 rfl ?_
    refine lv_lconst (pc := 20) (v := zL 1) hx hb dX8_washable_20 rfl ?_
    refine zr_si (pc := 21) (As := [.long (zL (q)), .long (zL (0)), .long (zL (1))]) (rest := []) S (ct_X8_in l D cI cT q 0 1 (by omega) (by decide) (by decide)) (va_cwS 3 hts gX8_washable_X8_in rfl rfl rfl (by decide +kernel) ⟨Nat.le_of_ble_eq_true rfl, Nat.le_of_ble_eq_true rfl⟩) zs0 hK trivial rfl hl.1 rfl (Nat.le_of_ble_eq_true rfl) dX8_washable_21 ⟨Nat.le_of_ble_eq_true rfl, Nat.le_of_ble_eq_true rfl⟩ (fun r_21 hr_21 => ?_)
    rcases hr_21 with ⟨hb_21, rfl⟩ | ⟨hb_21, rfl⟩
    · refine zr_if_ne (pc := 24) (tgt := 31) hx hb dX8_washable_24 (by decide) (by decide) (fun _ => ?_) (fun z => absurd z (by decide))
      refine lv_iconst (pc := 31) (v := zI 0) hx hb dX8_washable_31 rfl ?_
      refine lv_istore_n (pc := 32) (lv' := [(3, .int (zI (0))), (0, .ref (am 0)), (1, .int (zI (p))), (2, .int (zI (q)))]) hx hb dX8_washable_32 rfl hl (by decide) rfl (fun ls hl => ?_)
      refine lv_iconst (pc := 33) (v := zI 0) hx hb dX8_washable_33 rfl ?_
      refine lv_istore (pc := 34) (lv' := [(4, .int (zI (0))), (3, .int (zI (0))), (0, .ref (am 0)), (1, .int (zI (p))), (2, .int (zI (q)))]) hx hb dX8_washable_34 hl (by decide) rfl (fun ls hl => ?_)
      refine zr_loop2 (fun (i : Nat) (x : Int) => ((i : Int) ≤ g 0) ∧ (x = dset g p q i)) (fun (i : Nat) (x : Int) => (g 0 : Int).toNat - i) (fun (i : Nat) (x : Int) => [(0, .ref (am 0)), (1, .int (zI (p))), (2, .int (zI (q))), (3, .int (zI (x))), (4, .int (zI ((i : Int))))]) ?_ (0) (0) (⟨by omega, rfl⟩) (lv_sub hl [2, 3, 4, 1, 0] rfl)
      intro i x hinv ih_36 ls hl
      obtain ⟨h_i, h_x⟩ := hinv
      have hbd := dset_bd g p q i
      refine lv_iload (pc := 36) hx hb dX8_washable_36 (lv_at hl 4 rfl) ?_
      refine lv_aload_n (pc := 38) hx hb dX8_washable_38 rfl (lv_at hl 0 rfl) ?_
      refine zr_get (pc := 39) S hK (hP 0 (by decide)) rfl i_X8 1 (by decide) (List.mem_of_getElem? (i := 3) rfl) rfl dX8_washable_39 ?_
      refine lv_iconst (pc := 42) (v := zI 0) hx hb dX8_washable_42 rfl ?_
      refine zr_ald (pc := 43) (n := 572) hx hb (zAr_of (zK_int hK) (hP 1 (by decide))) (by decide) (by decide) (by decide) dX8_washable_43 ?_
      refine zr_top (b := g 0) (congrFun ((su_ne (by decide) _ _).trans hg) _) ?_
      refine zr_icmp_ge (pc := 44) (tgt := 126) hx hb dX8_washable_44 (by decide) (by omega) (by omega) (fun c_44 => ?_) (fun c_44 => ?_)
      · refine lv_iload_n (pc := 126) hx hb dX8_washable_126 rfl (lv_at hl 3 rfl) ?_
        exact W.iret (v := zI (x)) hx hb hr (fun tz ht hW => ⟨⟨zI (x), zI (x), rfl, rfl, by dsimp only; rw [ht]; exact ⟨congrArg zI (Eq.symm ((tft (by omega)).trans (by rw [h_x, show i = (g 0).toNat by omega]))), _, (mR_sc hM 0 0 (by decide) (by decide)), hP⟩⟩, hS.F ht⟩) hS.2.2 dX8_washable_127
      · refine lv_aload_n (pc := 47) hx hb dX8_washable_47 rfl (lv_at hl 0 rfl) ?_
        refine lv_iload (pc := 48) hx hb dX8_washable_48 (lv_at hl 4 rfl) ?_
        refine lv_bipush (pc := 50) (v := zI 6) hx hb dX8_washable_50 zc_bipush_6 ?_
        refine zr_vi (pc := 52) (As := [.int (zI ((i : Int))), .int (zI (6))]) (rest := []) S (ct_X8_of l D cI cT am ((su μ 0 0 0)) g (((su_ne (by decide) _ _).trans hg)) hI ((i : Int)) 6 (by omega) (by omega) (by omega) (by omega)) (cwV 2 hts gX8_washable_X8_of rfl rfl rfl (by decide +kernel) ⟨Nat.le_of_ble_eq_true rfl, Nat.le_of_ble_eq_true rfl⟩) zs0 hK hP (zr_recv hK (hP 0 (by decide)) rfl) rfl hl.1 rfl (Nat.le_of_ble_eq_true rfl) dX8_washable_52 ⟨Nat.le_of_ble_eq_true rfl, Nat.le_of_ble_eq_true rfl⟩ (fun r_52 hr_52 => ?_)
        subst hr_52
        have hdi := iv_di hI (c := (i : Int)) (by omega) (by omega)
        refine zr_if_le (pc := 55) (tgt := 101) hx hb dX8_washable_55 (by decide) (by omega) (fun c_55 => ?_) (fun c_55 => ?_)
        · refine lv_iconst (pc := 101) (v := zI 0) hx hb dX8_washable_101 rfl ?_
          refine lv_istore (pc := 102) (lv' := [(5, .int (zI (0))), (0, .ref (am 0)), (1, .int (zI (p))), (2, .int (zI (q))), (3, .int (zI (x))), (4, .int (zI ((i : Int))))]) hx hb dX8_washable_102 hl (by decide) rfl (fun ls hl => ?_)
          refine lv_iload_n (pc := 104) hx hb dX8_washable_104 rfl (lv_at hl 4 rfl) ?_
          refine lv_iload (pc := 105) hx hb dX8_washable_105 (lv_at hl 0 rfl) ?_
          refine zr_if_eq (pc := 107) (tgt := 117) hx hb dX8_washable_107 (by decide) (by decide) (fun _ => ?_) (fun z => absurd z (by decide))
          refine lv_iconst (pc := 117) (v := zI 0) hx hb dX8_washable_117 rfl ?_
          refine zr_ior (pc := 118) (d := x) hx hb dX8_washable_118 (zi_or0 _) ?_
          refine lv_istore_n (pc := 119) (lv' := [(3, .int (zI (x))), (5, .int (zI (0))), (0, .ref (am 0)), (1, .int (zI (p))), (2, .int (zI (q))), (4, .int (zI ((i : Int))))]) hx hb dX8_washable_119 rfl hl (by decide) rfl (fun ls hl => ?_)
          refine zr_iinc (pc := 120) (d := ((i : Int)) + 1) (lv' := [(4, .int (zI (((i : Int)) + 1))), (3, .int (zI (x))), (5, .int (zI (0))), (0, .ref (am 0)), (1, .int (zI (p))), (2, .int (zI (q)))]) hx hb dX8_washable_120 hl (k := 5) rfl rfl (by decide) rfl (fun ls hl => ?_)
          refine lv_goto (pc := 123) (tgt := 36) hx hb dX8_washable_123 (by decide) ?_
          exact ih_36 (i + 1) (x) (⟨by omega, by rw [dset_s]; first | (rw [ti_t ⟨by first | exact Or.inl c_83 | exact Or.inr c_94, by omega, hb_61, hb_75⟩]; omega) | (rw [ti_f (fun z => by first | exact hb_75 z.2.2.2 | exact z.2.2.1 hb_61 | exact absurd z.2.1 (by omega) | exact z.1.elim c_83 c_94)]; omega)⟩) (by omega) ls (lv_sub hl [3, 4, 5, 1, 0] rfl)
        · refine lv_aload_n (pc := 58) hx hb dX8_washable_58 rfl (lv_at hl 0 rfl) ?_
          refine lv_iload (pc := 59) hx hb dX8_washable_59 (lv_at hl 4 rfl) ?_
          refine zr_vi (pc := 61) (As := [.int (zI ((i : Int)))]) (rest := []) S (ct_X8_isAwayToday l D cI cT am ((su μ 0 0 0)) g (((su_ne (by decide) _ _).trans hg)) hI ((i : Int)) (by omega) (by omega)) (cwV 1 hts gX8_washable_X8_isAwayToday rfl rfl rfl (by decide +kernel) ⟨Nat.le_of_ble_eq_true rfl, Nat.le_of_ble_eq_true rfl⟩) zs0 hK hP (zr_recv hK (hP 0 (by decide)) rfl) rfl hl.1 rfl (Nat.le_of_ble_eq_true rfl) dX8_washable_61 ⟨Nat.le_of_ble_eq_true rfl, Nat.le_of_ble_eq_true rfl⟩ (fun r_61 hr_61 => ?_)
          rcases hr_61 with ⟨hb_61, rfl⟩ | ⟨hb_61, rfl⟩
          · refine zr_if_ne (pc := 64) (tgt := 101) hx hb dX8_washable_64 (by decide) (by decide) (fun _ => ?_) (fun z => absurd z (by decide))
            refine lv_iconst (pc := 101) (v := zI 0) hx hb dX8_washable_101 rfl ?_
            refine lv_istore (pc := 102) (lv' := [(5, .int (zI (0))), (0, .ref (am 0)), (1, .int (zI (p))), (2, .int (zI (q))), (3, .int (zI (x))), (4, .int (zI ((i : Int))))]) hx hb dX8_washable_102 hl (by decide) rfl (fun ls hl => ?_)
            refine lv_iload_n (pc := 104) hx hb dX8_washable_104 rfl (lv_at hl 4 rfl) ?_
            refine lv_iload (pc := 105) hx hb dX8_washable_105 (lv_at hl 0 rfl) ?_
            refine zr_if_eq (pc := 107) (tgt := 117) hx hb dX8_washable_107 (by decide) (by decide) (fun _ => ?_) (fun z => absurd z (by decide))
            refine lv_iconst (pc := 117) (v := zI 0) hx hb dX8_washable_117 rfl ?_
            refine zr_ior (pc := 118) (d := x) hx hb dX8_washable_118 (zi_or0 _) ?_
            refine lv_istore_n (pc := 119) (lv' := [(3, .int (zI (x))), (5, .int (zI (0))), (0, .ref (am 0)), (1, .int (zI (p))), (2, .int (zI (q))), (4, .int (zI ((i : Int))))]) hx hb dX8_washable_119 rfl hl (by decide) rfl (fun ls hl => ?_)
            refine zr_iinc (pc := 120) (d := ((i : Int)) + 1) (lv' := [(4, .int (zI (((i : Int)) + 1))), (3, .int (zI (x))), (5, .int (zI (0))), (0, .ref (am 0)), (1, .int (zI (p))), (2, .int (zI (q)))]) hx hb dX8_washable_120 hl (k := 5) rfl rfl (by decide) rfl (fun ls hl => ?_)
            refine lv_goto (pc := 123) (tgt := 36) hx hb dX8_washable_123 (by decide) ?_
            exact ih_36 (i + 1) (x) (⟨by omega, by rw [dset_s]; first | (rw [ti_t ⟨by first | exact Or.inl c_83 | exact Or.inr c_94, by omega, hb_61, hb_75⟩]; omega) | (rw [ti_f (fun z => by first | exact hb_75 z.2.2.2 | exact z.2.2.1 hb_61 | exact absurd z.2.1 (by omega) | exact z.1.elim c_83 c_94)]; omega)⟩) (by omega) ls (lv_sub hl [3, 4, 5, 1, 0] rfl)
          · refine zr_if_ne (pc := 64) (tgt := 101) hx hb dX8_washable_64 (by decide) (by decide) (fun z => absurd z (by decide)) (fun _ => ?_)
            refine lv_iload_n (pc := 67) hx hb dX8_washable_67 rfl (lv_at hl 1 rfl) ?_
            refine lv_aload_n (pc := 68) hx hb dX8_washable_68 rfl (lv_at hl 0 rfl) ?_
            refine lv_iload (pc := 69) hx hb dX8_washable_69 (lv_at hl 4 rfl) ?_
            refine lv_iconst (pc := 71) (v := zI 4) hx hb dX8_washable_71 rfl ?_
            refine zr_vi (pc := 72) (As := [.int (zI ((i : Int))), .int (zI (4))]) (rest := [.int (zI (p))]) S (ct_X8_of l D cI cT am ((su μ 0 0 0)) g (((su_ne (by decide) _ _).trans hg)) hI ((i : Int)) 4 (by omega) (by omega) (by omega) (by omega)) (cwV 2 hts gX8_washable_X8_of rfl rfl rfl (by decide +kernel) ⟨Nat.le_of_ble_eq_true rfl, Nat.le_of_ble_eq_true rfl⟩) zs0 hK hP (zr_recv hK (hP 0 (by decide)) rfl) rfl hl.1 rfl (Nat.le_of_ble_eq_true rfl) dX8_washable_72 ⟨Nat.le_of_ble_eq_true rfl, Nat.le_of_ble_eq_true rfl⟩ (fun r_72 hr_72 => ?_)
            subst hr_72
            have hco := iv_co hI (c := (i : Int)) (by omega) (by omega)
            refine zr_si (pc := 75) (As := [.int (zI (p)), .int (zI (gC g ((i : Int)) 4))]) (rest := []) S (ct_X8_canWash l D cI cT p (gC g ((i : Int)) 4) (by omega) (by omega) (by omega) (by omega)) (va_cwS 2 hts gX8_washable_X8_canWash rfl rfl rfl (by decide +kernel) ⟨Nat.le_of_ble_eq_true rfl, Nat.le_of_ble_eq_true rfl⟩) zs0 hK trivial rfl hl.1 rfl (Nat.le_of_ble_eq_true rfl) dX8_washable_75 ⟨Nat.le_of_ble_eq_true rfl, Nat.le_of_ble_eq_true rfl⟩ (fun r_75 hr_75 => ?_)
            rcases hr_75 with ⟨hb_75, rfl⟩ | ⟨hb_75, rfl⟩
            · refine zr_if_eq (pc := 78) (tgt := 101) hx hb dX8_washable_78 (by decide) (by decide) (fun z => absurd z (by decide)) (fun _ => ?_)
              refine lv_iload_n (pc := 81) hx hb dX8_washable_81 rfl (lv_at hl 1 rfl) ?_
              refine lv_iconst (pc := 82) (v := zI 3) hx hb dX8_washable_82 rfl ?_
              refine zr_icmp_eq (pc := 83) (tgt := 97) hx hb dX8_washable_83 (by decide) (by omega) (by decide) (fun c_83 => ?_) (fun c_83 => ?_)
              · refine lv_iconst (pc := 97) (v := zI 1) hx hb dX8_washable_97 rfl ?_
                refine lv_goto (pc := 98) (tgt := 102) hx hb dX8_washable_98 (by decide) ?_
                refine lv_istore (pc := 102) (lv' := [(5, .int (zI (1))), (0, .ref (am 0)), (1, .int (zI (p))), (2, .int (zI (q))), (3, .int (zI (x))), (4, .int (zI ((i : Int))))]) hx hb dX8_washable_102 hl (by decide) rfl (fun ls hl => ?_)
                refine lv_iload_n (pc := 104) hx hb dX8_washable_104 rfl (lv_at hl 4 rfl) ?_
                refine lv_iload (pc := 105) hx hb dX8_washable_105 (lv_at hl 0 rfl) ?_
                refine zr_if_eq (pc := 107) (tgt := 117) hx hb dX8_washable_107 (by decide) (by decide) (fun z => absurd z (by decide)) (fun _ => ?_)
                refine lv_iconst (pc := 110) (v := zI 1) hx hb dX8_washable_110 rfl ?_
                refine lv_iload (pc := 111) hx hb dX8_washable_111 (lv_at hl 5 rfl) ?_
                refine zr_ishl (pc := 113) (d := pw i) hx hb dX8_washable_113 (zi_pw (by omega) (by omega)) ?_
                refine lv_goto (pc := 114) (tgt := 118) hx hb dX8_washable_114 (by decide) ?_
                refine zr_ior (pc := 118) (d := x + pw i) hx hb dX8_washable_118 (zi_or (by omega) (by omega) (by omega) (by omega)) ?_
                refine lv_istore_n (pc := 119) (lv' := [(3, .int (zI (x + pw i))), (5, .int (zI (1))), (0, .ref (am 0)), (1, .int (zI (p))), (2, .int (zI (q))), (4, .int (zI ((i : Int))))]) hx hb dX8_washable_119 rfl hl (by decide) rfl (fun ls hl => ?_)
                refine zr_iinc (pc := 120) (d := ((i : Int)) + 1) (lv' := [(4, .int (zI (((i : Int)) + 1))), (3, .int (zI (x + pw i))), (5, .int (zI (1))), (0, .ref (am 0)), (1, .int (zI (p))), (2, .int (zI (q)))]) hx hb dX8_washable_120 hl (k := 5) rfl rfl (by decide) rfl (fun ls hl => ?_)
                refine lv_goto (pc := 123) (tgt := 36) hx hb dX8_washable_123 (by decide) ?_
                exact ih_36 (i + 1) ((x + pw i)) (⟨by omega, by rw [dset_s]; first | (rw [ti_t ⟨by first | exact Or.inl c_83 | exact Or.inr c_94, by omega, hb_61, hb_75⟩]; omega) | (rw [ti_f (fun z => by first | exact hb_75 z.2.2.2 | exact z.2.2.1 hb_61 | exact absurd z.2.1 (by omega) | exact z.1.elim c_83 c_94)]; omega)⟩) (by omega) ls (lv_sub hl [3, 4, 5, 1, 0] rfl)
              · refine lv_aload_n (pc := 86) hx hb dX8_washable_86 rfl (lv_at hl 0 rfl) ?_
                refine lv_iload (pc := 87) hx hb dX8_washable_87 (lv_at hl 4 rfl) ?_
                refine lv_iconst (pc := 89) (v := zI 5) hx hb dX8_washable_89 rfl ?_
                refine zr_vi (pc := 90) (As := [.int (zI ((i : Int))), .int (zI (5))]) (rest := []) S (ct_X8_of l D cI cT am ((su μ 0 0 0)) g (((su_ne (by decide) _ _).trans hg)) hI ((i : Int)) 5 (by omega) (by omega) (by omega) (by omega)) (cwV 2 hts gX8_washable_X8_of rfl rfl rfl (by decide +kernel) ⟨Nat.le_of_ble_eq_true rfl, Nat.le_of_ble_eq_true rfl⟩) zs0 hK hP (zr_recv hK (hP 0 (by decide)) rfl) rfl hl.1 rfl (Nat.le_of_ble_eq_true rfl) dX8_washable_90 ⟨Nat.le_of_ble_eq_true rfl, Nat.le_of_ble_eq_true rfl⟩ (fun r_90 hr_90 => ?_)
                subst hr_90
                have hcl := iv_cl hI (c := (i : Int)) (by omega) (by omega)
                refine lv_iload_n (pc := 93) hx hb dX8_washable_93 rfl (lv_at hl 2 rfl) ?_
                refine zr_icmp_ne (pc := 94) (tgt := 101) hx hb dX8_washable_94 (by decide) (by omega) (by omega) (fun c_94 => ?_) (fun c_94 => ?_)
                · refine lv_iconst (pc := 101) (v := zI 0) hx hb dX8_washable_101 rfl ?_
                  refine lv_istore (pc := 102) (lv' := [(5, .int (zI (0))), (0, .ref (am 0)), (1, .int (zI (p))), (2, .int (zI (q))), (3, .int (zI (x))), (4, .int (zI ((i : Int))))]) hx hb dX8_washable_102 hl (by decide) rfl (fun ls hl => ?_)
                  refine lv_iload_n (pc := 104) hx hb dX8_washable_104 rfl (lv_at hl 4 rfl) ?_
                  refine lv_iload (pc := 105) hx hb dX8_washable_105 (lv_at hl 0 rfl) ?_
                  refine zr_if_eq (pc := 107) (tgt := 117) hx hb dX8_washable_107 (by decide) (by decide) (fun _ => ?_) (fun z => absurd z (by decide))
                  refine lv_iconst (pc := 117) (v := zI 0) hx hb dX8_washable_117 rfl ?_
                  refine zr_ior (pc := 118) (d := x) hx hb dX8_washable_118 (zi_or0 _) ?_
                  refine lv_istore_n (pc := 119) (lv' := [(3, .int (zI (x))), (5, .int (zI (0))), (0, .ref (am 0)), (1, .int (zI (p))), (2, .int (zI (q))), (4, .int (zI ((i : Int))))]) hx hb dX8_washable_119 rfl hl (by decide) rfl (fun ls hl => ?_)
                  refine zr_iinc (pc := 120) (d := ((i : Int)) + 1) (lv' := [(4, .int (zI (((i : Int)) + 1))), (3, .int (zI (x))), (5, .int (zI (0))), (0, .ref (am 0)), (1, .int (zI (p))), (2, .int (zI (q)))]) hx hb dX8_washable_120 hl (k := 5) rfl rfl (by decide) rfl (fun ls hl => ?_)
                  refine lv_goto (pc := 123) (tgt := 36) hx hb dX8_washable_123 (by decide) ?_
                  exact ih_36 (i + 1) (x) (⟨by omega, by rw [dset_s]; first | (rw [ti_t ⟨by first | exact Or.inl c_83 | exact Or.inr c_94, by omega, hb_61, hb_75⟩]; omega) | (rw [ti_f (fun z => by first | exact hb_75 z.2.2.2 | exact z.2.2.1 hb_61 | exact absurd z.2.1 (by omega) | exact z.1.elim c_83 c_94)]; omega)⟩) (by omega) ls (lv_sub hl [3, 4, 5, 1, 0] rfl)
                · refine lv_iconst (pc := 97) (v := zI 1) hx hb dX8_washable_97 rfl ?_
                  refine lv_goto (pc := 98) (tgt := 102) hx hb dX8_washable_98 (by decide) ?_
                  refine lv_istore (pc := 102) (lv' := [(5, .int (zI (1))), (0, .ref (am 0)), (1, .int (zI (p))), (2, .int (zI (q))), (3, .int (zI (x))), (4, .int (zI ((i : Int))))]) hx hb dX8_washable_102 hl (by decide) rfl (fun ls hl => ?_)
                  refine lv_iload_n (pc := 104) hx hb dX8_washable_104 rfl (lv_at hl 4 rfl) ?_
                  refine lv_iload (pc := 105) hx hb dX8_washable_105 (lv_at hl 0 rfl) ?_
                  refine zr_if_eq (pc := 107) (tgt := 117) hx hb dX8_washable_107 (by decide) (by decide) (fun z => absurd z (by decide)) (fun _ => ?_)
                  refine lv_iconst (pc := 110) (v := zI 1) hx hb dX8_washable_110 rfl ?_
                  refine lv_iload (pc := 111) hx hb dX8_washable_111 (lv_at hl 5 rfl) ?_
                  refine zr_ishl (pc := 113) (d := pw i) hx hb dX8_washable_113 (zi_pw (by omega) (by omega)) ?_
                  refine lv_goto (pc := 114) (tgt := 118) hx hb dX8_washable_114 (by decide) ?_
                  refine zr_ior (pc := 118) (d := x + pw i) hx hb dX8_washable_118 (zi_or (by omega) (by omega) (by omega) (by omega)) ?_
                  refine lv_istore_n (pc := 119) (lv' := [(3, .int (zI (x + pw i))), (5, .int (zI (1))), (0, .ref (am 0)), (1, .int (zI (p))), (2, .int (zI (q))), (4, .int (zI ((i : Int))))]) hx hb dX8_washable_119 rfl hl (by decide) rfl (fun ls hl => ?_)
                  refine zr_iinc (pc := 120) (d := ((i : Int)) + 1) (lv' := [(4, .int (zI (((i : Int)) + 1))), (3, .int (zI (x + pw i))), (5, .int (zI (1))), (0, .ref (am 0)), (1, .int (zI (p))), (2, .int (zI (q)))]) hx hb dX8_washable_120 hl (k := 5) rfl rfl (by decide) rfl (fun ls hl => ?_)
                  refine lv_goto (pc := 123) (tgt := 36) hx hb dX8_washable_123 (by decide) ?_
                  exact ih_36 (i + 1) ((x + pw i)) (⟨by omega, by rw [dset_s]; first | (rw [ti_t ⟨by first | exact Or.inl c_83 | exact Or.inr c_94, by omega, hb_61, hb_75⟩]; omega) | (rw [ti_f (fun z => by first | exact hb_75 z.2.2.2 | exact z.2.2.1 hb_61 | exact absurd z.2.1 (by omega) | exact z.1.elim c_83 c_94)]; omega)⟩) (by omega) ls (lv_sub hl [3, 4, 5, 1, 0] rfl)
            · refine zr_if_eq (pc := 78) (tgt := 101) hx hb dX8_washable_78 (by decide) (by decide) (fun _ => ?_) (fun z => absurd z (by decide))
              refine lv_iconst (pc := 101) (v := zI 0) hx hb dX8_washable_101 rfl ?_
              refine lv_istore (pc := 102) (lv' := [(5, .int (zI (0))), (0, .ref (am 0)), (1, .int (zI (p))), (2, .int (zI (q))), (3, .int (zI (x))), (4, .int (zI ((i : Int))))]) hx hb dX8_washable_102 hl (by decide) rfl (fun ls hl => ?_)
              refine lv_iload_n (pc := 104) hx hb dX8_washable_104 rfl (lv_at hl 4 rfl) ?_
              refine lv_iload (pc := 105) hx hb dX8_washable_105 (lv_at hl 0 rfl) ?_
              refine zr_if_eq (pc := 107) (tgt := 117) hx hb dX8_washable_107 (by decide) (by decide) (fun _ => ?_) (fun z => absurd z (by decide))
              refine lv_iconst (pc := 117) (v := zI 0) hx hb dX8_washable_117 rfl ?_
              refine zr_ior (pc := 118) (d := x) hx hb dX8_washable_118 (zi_or0 _) ?_
              refine lv_istore_n (pc := 119) (lv' := [(3, .int (zI (x))), (5, .int (zI (0))), (0, .ref (am 0)), (1, .int (zI (p))), (2, .int (zI (q))), (4, .int (zI ((i : Int))))]) hx hb dX8_washable_119 rfl hl (by decide) rfl (fun ls hl => ?_)
              refine zr_iinc (pc := 120) (d := ((i : Int)) + 1) (lv' := [(4, .int (zI (((i : Int)) + 1))), (3, .int (zI (x))), (5, .int (zI (0))), (0, .ref (am 0)), (1, .int (zI (p))), (2, .int (zI (q)))]) hx hb dX8_washable_120 hl (k := 5) rfl rfl (by decide) rfl (fun ls hl => ?_)
              refine lv_goto (pc := 123) (tgt := 36) hx hb dX8_washable_123 (by decide) ?_
              exact ih_36 (i + 1) (x) (⟨by omega, by rw [dset_s]; first | (rw [ti_t ⟨by first | exact Or.inl c_83 | exact Or.inr c_94, by omega, hb_61, hb_75⟩]; omega) | (rw [ti_f (fun z => by first | exact hb_75 z.2.2.2 | exact z.2.2.1 hb_61 | exact absurd z.2.1 (by omega) | exact z.1.elim c_83 c_94)]; omega)⟩) (by omega) ls (lv_sub hl [3, 4, 5, 1, 0] rfl)
    · refine zr_if_ne (pc := 24) (tgt := 31) hx hb dX8_washable_24 (by decide) (by decide) (fun z => absurd z (by decide)) (fun _ => ?_)
      refine lv_sipush (pc := 27) (v := zI (-2001)) hx hb dX8_washable_27 zc_sipush_m2001 ?_
      exact W.iret (v := zI ((-2001))) hx hb hr (fun tz ht hW => ⟨⟨zI ((-2001)), zI ((-2001)), rfl, rfl, by dsimp only; rw [ht]; exact ⟨congrArg zI (Eq.symm (tff (fun z => by omega))), _, (mR_sc hM 0 0 (by decide) (by decide)), hP⟩⟩, hS.F ht⟩) hS.2.2 dX8_washable_30
  · refine zr_if_eq (pc := 14) (tgt := 27) hx hb dX8_washable_14 (by decide) (by decide) (fun _ => ?_) (fun z => absurd z (by decide))
    refine lv_sipush (pc := 27) (v := zI (-2001)) hx hb dX8_washable_27 zc_sipush_m2001 ?_
    exact W.iret (v := zI ((-2001))) hx hb hr (fun tz ht hW => ⟨⟨zI ((-2001)), zI ((-2001)), rfl, rfl, by dsimp only; rw [ht]; exact ⟨congrArg zI (Eq.symm (tff (fun z => by omega))), _, (mR_sc hM 0 0 (by decide) (by decide)), hP⟩⟩, hS.F ht⟩) hS.2.2 dX8_washable_30
set_option maxHeartbeats 4000000 in
set_option maxRecDepth 100000 in
theorem ct_X8_costumeFor (l : Launch) (D : va_G) (cI cT : ClassId) (sz : Nat) (am : Nat → Nat) (μ : Nat → Int → Int) (g : Int → Int) (n : Nat) (hs : Nat → Int → Int) (tl : Int) (tx : Int → Int) (hM : mR μ g n hs tl tx) (hI : Inv g) (hJ : zJ am 5) (sc : Int) (a : Int) (r_sc : -2147483648 ≤ sc ∧ sc ≤ 2147483647) (r_a : -2147483648 ≤ a ∧ a ≤ 2147483647) : zMi l yX8_costumeFor wsX8_costumeFor ({ frames := 4, cells := 0, slots := 0, locals := 98 }) D cI cT [.ref (am 0), .int (zI (sc)), .int (zI (a))] sz (fun _ H => zW D am 5 (mC cI am μ) H) (fun rr H => rr = zI (qFor g sc a) ∧ ∃ (μ' : Nat → Int → Int), mR μ' g n hs tl tx ∧ zW D am 5 (mC cI am μ') H) (zR am 5 sz) := by
  refine Met.ofW (cc := cX8_costumeFor) (maxL := 6) (ret := (some .int)) (by decide) rfl ?_
  intro p_ e_ s m_ args below meth c_ s₁ B hml hv
  obtain ⟨rfl, hsz, hK, hF⟩ := hv
  have hx := B.exec
  have hb := B.bytes
  have hr := B.returns
  have hts := atoms_spec (ws := wsX8_costumeFor) B.pre
  have hown : s.vm.findClass RX8 = some m_.cls := findClass_of_methodNamed B.named
  have hlocks := B.notSynchronized
  have S : CallFix p_ m_ c_ cX8_costumeFor 6 s _ wsX8_costumeFor RX8 := ⟨hx, hb, hml, hown, hts⟩
  have i_X8 : ∀ w ∈ u_ws RX8 TX8 12, w ∈ wsX8_costumeFor := fun _ h => List.mem_cons_of_mem _ (List.mem_append_right _ h)
  subst hsz
  generalize hAe : (zR am 5 s.heap.size) = A
  have hAn : ∀ q : Nat, s.heap.size ≤ q → A q := fun q h => by rw [← hAe]; exact Or.inr h
  obtain ⟨H, hHe⟩ : ∃ H : Heap, H = s.heap := ⟨_, rfl⟩
  rw [← hHe] at hF ⊢
  have hS : va_S A s.heap H [] := by rw [hHe]; exact va_S.rf
  have hP := hF
  have hg := hM.1
  have hAin : ∀ k : Nat, k < 5 → A (am k) := fun k hk => by rw [← hAe]; exact Or.inl ⟨k, hk, rfl⟩
  have hnC := iv_nC hI
  have hnA := iv_nA hI
  have hl := lv_entry ([.ref (am 0), .int (zI (sc)), .int (zI (a))]) (n := 6) (Nat.le_of_ble_eq_true rfl)
  rw [lg_entry_eq]
  generalize (lg_sl ([.ref (am 0), .int (zI (sc)), .int (zI (a))]) ++ List.replicate (6 - (lg_sl ([.ref (am 0), .int (zI (sc)), .int (zI (a))])).length) Slot.unset).toArray = ls at hl ⊢
  have hl : lv_has ls 6 [(0, .ref (am 0)), (1, .int (zI (sc))), (2, .int (zI (a)))] := hl
  refine lv_aload_n (pc := 0) hx hb dX8_costumeFor_0 rfl (lv_at hl 0 rfl) ?_
  refine lv_iconst (pc := 1) (v := zI 0) hx hb dX8_costumeFor_1 rfl ?_
  refine zr_put (pc := 2) S hK (hP 0 (by decide)) rfl i_X8 tyX8 tyX8_ok nmX8 0 (by decide) (List.mem_of_getElem? (i := 1) rfl) rfl rfl rfl (Nat.le_of_ble_eq_true rfl) hS (hAin 0 (by decide)) dX8_costumeFor_2 (fun H locs hO hz hk hS => ?_)
  have hP := zW.put hP hJ 0 (by decide) hO hk (mC_0_0 0)
  refine lv_iload_n (pc := 5) hx hb dX8_costumeFor_5 rfl (lv_at hl 1 rfl) ?_
  refine zr_si (pc := 6) (As := [.int (zI (sc))]) (rest := []) S (ct_X8_isScene l D cI cT sc (by omega)) (va_cwS 1 hts gX8_costumeFor_X8_isScene rfl rfl rfl (by decide +kernel) ⟨Nat.le_of_ble_eq_true rfl, Nat.le_of_ble_eq_true rfl⟩) zs0 hK trivial rfl hl.1 rfl (Nat.le_of_ble_eq_true rfl) dX8_costumeFor_6 ⟨Nat.le_of_ble_eq_true rfl, Nat.le_of_ble_eq_true rfl⟩ (fun r_6 hr_6 => ?_)
  rcases hr_6 with ⟨hb_6, rfl⟩ | ⟨hb_6, rfl⟩
  · refine zr_if_eq (pc := 9) (tgt := 20) hx hb dX8_costumeFor_9 (by decide) (by decide) (fun z => absurd z (by decide)) (fun _ => ?_)
    refine lv_aload_n (pc := 12) hx hb dX8_costumeFor_12 rfl (lv_at hl 0 rfl) ?_
    refine lv_iload_n (pc := 13) hx hb dX8_costumeFor_13 rfl (lv_at hl 2 rfl) ?_
    refine zr_vi (pc := 14) (As := [.int (zI (a))]) (rest := []) S (ct_X8_isActor l D cI cT am ((su μ 0 0 0)) g (((su_ne (by decide) _ _).trans hg)) hI a (by omega)) (cwV 1 hts gX8_costumeFor_X8_isActor rfl rfl rfl (by decide +kernel) ⟨Nat.le_of_ble_eq_true rfl, Nat.le_of_ble_eq_true rfl⟩) zs0 hK hP (zr_recv hK (hP 0 (by decide)) rfl) rfl hl.1 rfl (Nat.le_of_ble_eq_true rfl) dX8_costumeFor_14 ⟨Nat.le_of_ble_eq_true rfl, Nat.le_of_ble_eq_true rfl⟩ (fun r_14 hr_14 => ?_)
    rcases hr_14 with ⟨hb_14, rfl⟩ | ⟨hb_14, rfl⟩
    · refine zr_if_ne (pc := 17) (tgt := 24) hx hb dX8_costumeFor_17 (by decide) (by decide) (fun _ => ?_) (fun z => absurd z (by decide))
      refine lv_sipush (pc := 24) (v := zI (-2009)) hx hb dX8_costumeFor_24 zc_sipush_m2009 ?_
      refine lv_istore_n (pc := 27) (lv' := [(3, .int (zI ((-2009)))), (0, .ref (am 0)), (1, .int (zI (sc))), (2, .int (zI (a)))]) hx hb dX8_costumeFor_27 rfl hl (by decide) rfl (fun ls hl => ?_)
      refine lv_iconst (pc := 28) (v := zI 0) hx hb dX8_costumeFor_28 rfl ?_
      refine lv_istore (pc := 29) (lv' := [(4, .int (zI (0))), (3, .int (zI ((-2009)))), (0, .ref (am 0)), (1, .int (zI (sc))), (2, .int (zI (a)))]) hx hb dX8_costumeFor_29 hl (by decide) rfl (fun ls hl => ?_)
      refine zr_loop2 (fun (i : Nat) (b : Int) => ((i : Int) ≤ g 0) ∧ (b = bst g sc a i)) (fun (i : Nat) (b : Int) => (g 0 : Int).toNat - i) (fun (i : Nat) (b : Int) => [(0, .ref (am 0)), (1, .int (zI (sc))), (2, .int (zI (a))), (3, .int (zI (b))), (4, .int (zI ((i : Int))))]) ?_ (0) (((-2009))) (⟨by omega, rfl⟩) (lv_sub hl [2, 3, 4, 1, 0] rfl)
      intro i b hinv ih_31 ls hl
      obtain ⟨h_i, h_b⟩ := hinv
      have hbb : b = -2009 ∨ (0 ≤ b ∧ b < (i : Int)) := by rw [h_b]; exact bst_bd g sc a i
      refine lv_iload (pc := 31) hx hb dX8_costumeFor_31 (lv_at hl 4 rfl) ?_
      refine lv_aload_n (pc := 33) hx hb dX8_costumeFor_33 rfl (lv_at hl 0 rfl) ?_
      refine zr_get (pc := 34) S hK (hP 0 (by decide)) rfl i_X8 1 (by decide) (List.mem_of_getElem? (i := 2) rfl) rfl dX8_costumeFor_34 ?_
      refine lv_iconst (pc := 37) (v := zI 0) hx hb dX8_costumeFor_37 rfl ?_
      refine zr_ald (pc := 38) (n := 572) hx hb (zAr_of (zK_int hK) (hP 1 (by decide))) (by decide) (by decide) (by decide) dX8_costumeFor_38 ?_
      refine zr_top (b := g 0) (congrFun ((su_ne (by decide) _ _).trans hg) _) ?_
      refine zr_icmp_ge (pc := 39) (tgt := 179) hx hb dX8_costumeFor_39 (by decide) (by omega) (by omega) (fun c_39 => ?_) (fun c_39 => ?_)
      · refine lv_iload_n (pc := 179) hx hb dX8_costumeFor_179 rfl (lv_at hl 3 rfl) ?_
        exact W.iret (v := zI (b)) hx hb hr (fun tz ht hW => ⟨⟨zI (b), zI (b), rfl, rfl, by dsimp only; rw [ht]; exact ⟨congrArg zI (Eq.symm ((tft (by omega)).trans (by rw [h_b, show i = (g 0).toNat by omega]))), _, (mR_sc hM 0 0 (by decide) (by decide)), hP⟩⟩, hS.F ht⟩) hS.2.2 dX8_costumeFor_180
      · refine lv_aload_n (pc := 42) hx hb dX8_costumeFor_42 rfl (lv_at hl 0 rfl) ?_
        refine lv_iload_n (pc := 43) hx hb dX8_costumeFor_43 rfl (lv_at hl 1 rfl) ?_
        refine lv_iload_n (pc := 44) hx hb dX8_costumeFor_44 rfl (lv_at hl 2 rfl) ?_
        refine lv_iload (pc := 45) hx hb dX8_costumeFor_45 (lv_at hl 4 rfl) ?_
        refine zr_vi (pc := 47) (As := [.int (zI (sc)), .int (zI (a)), .int (zI ((i : Int)))]) (rest := []) S (ct_X8_isTaken l D cI cT am ((su μ 0 0 0)) g (((su_ne (by decide) _ _).trans hg)) hI sc a ((i : Int)) (by omega) (by omega) (by omega) (by omega) (by omega) (by omega)) (cwV 3 hts gX8_costumeFor_X8_isTaken rfl rfl rfl (by decide +kernel) ⟨Nat.le_of_ble_eq_true rfl, Nat.le_of_ble_eq_true rfl⟩) zs0 hK hP (zr_recv hK (hP 0 (by decide)) rfl) rfl hl.1 rfl (Nat.le_of_ble_eq_true rfl) dX8_costumeFor_47 ⟨Nat.le_of_ble_eq_true rfl, Nat.le_of_ble_eq_true rfl⟩ (fun r_47 hr_47 => ?_)
        rcases hr_47 with ⟨hb_47, rfl⟩ | ⟨hb_47, rfl⟩
        · refine zr_if_ne (pc := 50) (tgt := 83) hx hb dX8_costumeFor_50 (by decide) (by decide) (fun _ => ?_) (fun z => absurd z (by decide))
          refine lv_iconst (pc := 83) (v := zI 0) hx hb dX8_costumeFor_83 rfl ?_
          refine lv_istore (pc := 84) (lv' := [(5, .int (zI (0))), (0, .ref (am 0)), (1, .int (zI (sc))), (2, .int (zI (a))), (3, .int (zI (b))), (4, .int (zI ((i : Int))))]) hx hb dX8_costumeFor_84 hl (by decide) rfl (fun ls hl => ?_)
          refine lv_iload (pc := 86) hx hb dX8_costumeFor_86 (lv_at hl 0 rfl) ?_
          refine zr_if_eq (pc := 88) (tgt := 135) hx hb dX8_costumeFor_88 (by decide) (by decide) (fun _ => ?_) (fun z => absurd z (by decide))
          refine lv_iconst (pc := 135) (v := zI 0) hx hb dX8_costumeFor_135 rfl ?_
          refine lv_istore (pc := 136) (lv' := [(5, .int (zI (0))), (0, .ref (am 0)), (1, .int (zI (sc))), (2, .int (zI (a))), (3, .int (zI (b))), (4, .int (zI ((i : Int))))]) hx hb dX8_costumeFor_136 hl (by decide) rfl (fun ls hl => ?_)
          refine lv_iload (pc := 138) hx hb dX8_costumeFor_138 (lv_at hl 0 rfl) ?_
          refine zr_if_eq (pc := 140) (tgt := 171) hx hb dX8_costumeFor_140 (by decide) (by decide) (fun _ => ?_) (fun z => absurd z (by decide))
          refine lv_iload_n (pc := 171) hx hb dX8_costumeFor_171 rfl (lv_at hl 4 rfl) ?_
          refine lv_istore_n (pc := 172) (lv' := [(3, .int (zI (b))), (5, .int (zI (0))), (0, .ref (am 0)), (1, .int (zI (sc))), (2, .int (zI (a))), (4, .int (zI ((i : Int))))]) hx hb dX8_costumeFor_172 rfl hl (by decide) rfl (fun ls hl => ?_)
          refine zr_iinc (pc := 173) (d := ((i : Int)) + 1) (lv' := [(4, .int (zI (((i : Int)) + 1))), (3, .int (zI (b))), (5, .int (zI (0))), (0, .ref (am 0)), (1, .int (zI (sc))), (2, .int (zI (a)))]) hx hb dX8_costumeFor_173 hl (k := 5) rfl rfl (by decide) rfl (fun ls hl => ?_)
          refine lv_goto (pc := 176) (tgt := 31) hx hb dX8_costumeFor_176 (by decide) ?_
          exact ih_31 (i + 1) (b) (⟨by omega, by first | exact h_b.trans (bst_no (fun q => by first | exact q.1.1.1.1 hb_47 | exact q.1.1.1.2.1 hb_60 | exact q.1.1.1.2.2 hb_73 | exact q.1.1.2.1 hb_94 | (have z := q.1.1.2.2; omega) | exact q.1.2 c_128)).symm | exact (bst_yes ⟨⟨⟨⟨hb_47, hb_60, hb_73⟩, hb_94, by omega⟩, c_128⟩, Or.inl (h_b.symm.trans c_147)⟩).symm | exact (bst_yes ⟨⟨⟨⟨hb_47, hb_60, hb_73⟩, hb_94, by omega⟩, c_128⟩, Or.inr (by rw [← h_b]; omega)⟩).symm | exact h_b.trans (bst_no (fun q => q.2.elim (fun z => c_147 (h_b.trans z)) (fun z => by rw [← h_b] at z; omega))).symm⟩) (by omega) ls (lv_sub hl [3, 4, 5, 1, 0] rfl)
        · refine zr_if_ne (pc := 50) (tgt := 83) hx hb dX8_costumeFor_50 (by decide) (by decide) (fun z => absurd z (by decide)) (fun _ => ?_)
          refine lv_aload_n (pc := 53) hx hb dX8_costumeFor_53 rfl (lv_at hl 0 rfl) ?_
          refine lv_iload_n (pc := 54) hx hb dX8_costumeFor_54 rfl (lv_at hl 1 rfl) ?_
          refine lv_iconst (pc := 55) (v := zI 1) hx hb dX8_costumeFor_55 rfl ?_
          refine zr_isub (pc := 56) (d := sc - 1) hx hb dX8_costumeFor_56 rfl ?_
          refine lv_iload_n (pc := 57) hx hb dX8_costumeFor_57 rfl (lv_at hl 2 rfl) ?_
          refine lv_iload (pc := 58) hx hb dX8_costumeFor_58 (lv_at hl 4 rfl) ?_
          refine zr_vi (pc := 60) (As := [.int (zI (sc - 1)), .int (zI (a)), .int (zI ((i : Int)))]) (rest := []) S (ct_X8_isTaken l D cI cT am ((su μ 0 0 0)) g (((su_ne (by decide) _ _).trans hg)) hI (sc - 1) a ((i : Int)) (by omega) (by omega) (by omega) (by omega) (by omega) (by omega)) (cwV 3 hts gX8_costumeFor_X8_isTaken rfl rfl rfl (by decide +kernel) ⟨Nat.le_of_ble_eq_true rfl, Nat.le_of_ble_eq_true rfl⟩) zs0 hK hP (zr_recv hK (hP 0 (by decide)) rfl) rfl hl.1 rfl (Nat.le_of_ble_eq_true rfl) dX8_costumeFor_60 ⟨Nat.le_of_ble_eq_true rfl, Nat.le_of_ble_eq_true rfl⟩ (fun r_60 hr_60 => ?_)
          rcases hr_60 with ⟨hb_60, rfl⟩ | ⟨hb_60, rfl⟩
          · refine zr_if_ne (pc := 63) (tgt := 83) hx hb dX8_costumeFor_63 (by decide) (by decide) (fun _ => ?_) (fun z => absurd z (by decide))
            refine lv_iconst (pc := 83) (v := zI 0) hx hb dX8_costumeFor_83 rfl ?_
            refine lv_istore (pc := 84) (lv' := [(5, .int (zI (0))), (0, .ref (am 0)), (1, .int (zI (sc))), (2, .int (zI (a))), (3, .int (zI (b))), (4, .int (zI ((i : Int))))]) hx hb dX8_costumeFor_84 hl (by decide) rfl (fun ls hl => ?_)
            refine lv_iload (pc := 86) hx hb dX8_costumeFor_86 (lv_at hl 0 rfl) ?_
            refine zr_if_eq (pc := 88) (tgt := 135) hx hb dX8_costumeFor_88 (by decide) (by decide) (fun _ => ?_) (fun z => absurd z (by decide))
            refine lv_iconst (pc := 135) (v := zI 0) hx hb dX8_costumeFor_135 rfl ?_
            refine lv_istore (pc := 136) (lv' := [(5, .int (zI (0))), (0, .ref (am 0)), (1, .int (zI (sc))), (2, .int (zI (a))), (3, .int (zI (b))), (4, .int (zI ((i : Int))))]) hx hb dX8_costumeFor_136 hl (by decide) rfl (fun ls hl => ?_)
            refine lv_iload (pc := 138) hx hb dX8_costumeFor_138 (lv_at hl 0 rfl) ?_
            refine zr_if_eq (pc := 140) (tgt := 171) hx hb dX8_costumeFor_140 (by decide) (by decide) (fun _ => ?_) (fun z => absurd z (by decide))
            refine lv_iload_n (pc := 171) hx hb dX8_costumeFor_171 rfl (lv_at hl 4 rfl) ?_
            refine lv_istore_n (pc := 172) (lv' := [(3, .int (zI (b))), (5, .int (zI (0))), (0, .ref (am 0)), (1, .int (zI (sc))), (2, .int (zI (a))), (4, .int (zI ((i : Int))))]) hx hb dX8_costumeFor_172 rfl hl (by decide) rfl (fun ls hl => ?_)
            refine zr_iinc (pc := 173) (d := ((i : Int)) + 1) (lv' := [(4, .int (zI (((i : Int)) + 1))), (3, .int (zI (b))), (5, .int (zI (0))), (0, .ref (am 0)), (1, .int (zI (sc))), (2, .int (zI (a)))]) hx hb dX8_costumeFor_173 hl (k := 5) rfl rfl (by decide) rfl (fun ls hl => ?_)
            refine lv_goto (pc := 176) (tgt := 31) hx hb dX8_costumeFor_176 (by decide) ?_
            exact ih_31 (i + 1) (b) (⟨by omega, by first | exact h_b.trans (bst_no (fun q => by first | exact q.1.1.1.1 hb_47 | exact q.1.1.1.2.1 hb_60 | exact q.1.1.1.2.2 hb_73 | exact q.1.1.2.1 hb_94 | (have z := q.1.1.2.2; omega) | exact q.1.2 c_128)).symm | exact (bst_yes ⟨⟨⟨⟨hb_47, hb_60, hb_73⟩, hb_94, by omega⟩, c_128⟩, Or.inl (h_b.symm.trans c_147)⟩).symm | exact (bst_yes ⟨⟨⟨⟨hb_47, hb_60, hb_73⟩, hb_94, by omega⟩, c_128⟩, Or.inr (by rw [← h_b]; omega)⟩).symm | exact h_b.trans (bst_no (fun q => q.2.elim (fun z => c_147 (h_b.trans z)) (fun z => by rw [← h_b] at z; omega))).symm⟩) (by omega) ls (lv_sub hl [3, 4, 5, 1, 0] rfl)
          · refine zr_if_ne (pc := 63) (tgt := 83) hx hb dX8_costumeFor_63 (by decide) (by decide) (fun z => absurd z (by decide)) (fun _ => ?_)
            refine lv_aload_n (pc := 66) hx hb dX8_costumeFor_66 rfl (lv_at hl 0 rfl) ?_
            refine lv_iload_n (pc := 67) hx hb dX8_costumeFor_67 rfl (lv_at hl 1 rfl) ?_
            refine lv_iconst (pc := 68) (v := zI 1) hx hb dX8_costumeFor_68 rfl ?_
            refine zr_iadd (pc := 69) (d := sc + 1) hx hb dX8_costumeFor_69 rfl ?_
            refine lv_iload_n (pc := 70) hx hb dX8_costumeFor_70 rfl (lv_at hl 2 rfl) ?_
            refine lv_iload (pc := 71) hx hb dX8_costumeFor_71 (lv_at hl 4 rfl) ?_
            refine zr_vi (pc := 73) (As := [.int (zI (sc + 1)), .int (zI (a)), .int (zI ((i : Int)))]) (rest := []) S (ct_X8_isTaken l D cI cT am ((su μ 0 0 0)) g (((su_ne (by decide) _ _).trans hg)) hI (sc + 1) a ((i : Int)) (by omega) (by omega) (by omega) (by omega) (by omega) (by omega)) (cwV 3 hts gX8_costumeFor_X8_isTaken rfl rfl rfl (by decide +kernel) ⟨Nat.le_of_ble_eq_true rfl, Nat.le_of_ble_eq_true rfl⟩) zs0 hK hP (zr_recv hK (hP 0 (by decide)) rfl) rfl hl.1 rfl (Nat.le_of_ble_eq_true rfl) dX8_costumeFor_73 ⟨Nat.le_of_ble_eq_true rfl, Nat.le_of_ble_eq_true rfl⟩ (fun r_73 hr_73 => ?_)
            rcases hr_73 with ⟨hb_73, rfl⟩ | ⟨hb_73, rfl⟩
            · refine zr_if_ne (pc := 76) (tgt := 83) hx hb dX8_costumeFor_76 (by decide) (by decide) (fun _ => ?_) (fun z => absurd z (by decide))
              refine lv_iconst (pc := 83) (v := zI 0) hx hb dX8_costumeFor_83 rfl ?_
              refine lv_istore (pc := 84) (lv' := [(5, .int (zI (0))), (0, .ref (am 0)), (1, .int (zI (sc))), (2, .int (zI (a))), (3, .int (zI (b))), (4, .int (zI ((i : Int))))]) hx hb dX8_costumeFor_84 hl (by decide) rfl (fun ls hl => ?_)
              refine lv_iload (pc := 86) hx hb dX8_costumeFor_86 (lv_at hl 0 rfl) ?_
              refine zr_if_eq (pc := 88) (tgt := 135) hx hb dX8_costumeFor_88 (by decide) (by decide) (fun _ => ?_) (fun z => absurd z (by decide))
              refine lv_iconst (pc := 135) (v := zI 0) hx hb dX8_costumeFor_135 rfl ?_
              refine lv_istore (pc := 136) (lv' := [(5, .int (zI (0))), (0, .ref (am 0)), (1, .int (zI (sc))), (2, .int (zI (a))), (3, .int (zI (b))), (4, .int (zI ((i : Int))))]) hx hb dX8_costumeFor_136 hl (by decide) rfl (fun ls hl => ?_)
              refine lv_iload (pc := 138) hx hb dX8_costumeFor_138 (lv_at hl 0 rfl) ?_
              refine zr_if_eq (pc := 140) (tgt := 171) hx hb dX8_costumeFor_140 (by decide) (by decide) (fun _ => ?_) (fun z => absurd z (by decide))
              refine lv_iload_n (pc := 171) hx hb dX8_costumeFor_171 rfl (lv_at hl 4 rfl) ?_
              refine lv_istore_n (pc := 172) (lv' := [(3, .int (zI (b))), (5, .int (zI (0))), (0, .ref (am 0)), (1, .int (zI (sc))), (2, .int (zI (a))), (4, .int (zI ((i : Int))))]) hx hb dX8_costumeFor_172 rfl hl (by decide) rfl (fun ls hl => ?_)
              refine zr_iinc (pc := 173) (d := ((i : Int)) + 1) (lv' := [(4, .int (zI (((i : Int)) + 1))), (3, .int (zI (b))), (5, .int (zI (0))), (0, .ref (am 0)), (1, .int (zI (sc))), (2, .int (zI (a)))]) hx hb dX8_costumeFor_173 hl (k := 5) rfl rfl (by decide) rfl (fun ls hl => ?_)
              refine lv_goto (pc := 176) (tgt := 31) hx hb dX8_costumeFor_176 (by decide) ?_
              exact ih_31 (i + 1) (b) (⟨by omega, by first | exact h_b.trans (bst_no (fun q => by first | exact q.1.1.1.1 hb_47 | exact q.1.1.1.2.1 hb_60 | exact q.1.1.1.2.2 hb_73 | exact q.1.1.2.1 hb_94 | (have z := q.1.1.2.2; omega) | exact q.1.2 c_128)).symm | exact (bst_yes ⟨⟨⟨⟨hb_47, hb_60, hb_73⟩, hb_94, by omega⟩, c_128⟩, Or.inl (h_b.symm.trans c_147)⟩).symm | exact (bst_yes ⟨⟨⟨⟨hb_47, hb_60, hb_73⟩, hb_94, by omega⟩, c_128⟩, Or.inr (by rw [← h_b]; omega)⟩).symm | exact h_b.trans (bst_no (fun q => q.2.elim (fun z => c_147 (h_b.trans z)) (fun z => by rw [← h_b] at z; omega))).symm⟩) (by omega) ls (lv_sub hl [3, 4, 5, 1, 0] rfl)
            · refine zr_if_ne (pc := 76) (tgt := 83) hx hb dX8_costumeFor_76 (by decide) (by decide) (fun z => absurd z (by decide)) (fun _ => ?_)
              refine lv_iconst (pc := 79) (v := zI 1) hx hb dX8_costumeFor_79 rfl ?_
              refine lv_goto (pc := 80) (tgt := 84) hx hb dX8_costumeFor_80 (by decide) ?_
              refine lv_istore (pc := 84) (lv' := [(5, .int (zI (1))), (0, .ref (am 0)), (1, .int (zI (sc))), (2, .int (zI (a))), (3, .int (zI (b))), (4, .int (zI ((i : Int))))]) hx hb dX8_costumeFor_84 hl (by decide) rfl (fun ls hl => ?_)
              refine lv_iload (pc := 86) hx hb dX8_costumeFor_86 (lv_at hl 0 rfl) ?_
              refine zr_if_eq (pc := 88) (tgt := 135) hx hb dX8_costumeFor_88 (by decide) (by decide) (fun z => absurd z (by decide)) (fun _ => ?_)
              refine lv_aload_n (pc := 91) hx hb dX8_costumeFor_91 rfl (lv_at hl 1 rfl) ?_
              refine lv_iload (pc := 92) hx hb dX8_costumeFor_92 (lv_at hl 5 rfl) ?_
              refine zr_vi (pc := 94) (As := [.int (zI ((i : Int)))]) (rest := []) S (ct_X8_isAwayToday l D cI cT am ((su μ 0 0 0)) g (((su_ne (by decide) _ _).trans hg)) hI ((i : Int)) (by omega) (by omega)) (cwV 1 hts gX8_costumeFor_X8_isAwayToday rfl rfl rfl (by decide +kernel) ⟨Nat.le_of_ble_eq_true rfl, Nat.le_of_ble_eq_true rfl⟩) zs0 hK hP (zr_recv hK (hP 0 (by decide)) rfl) rfl hl.1 rfl (Nat.le_of_ble_eq_true rfl) dX8_costumeFor_94 ⟨Nat.le_of_ble_eq_true rfl, Nat.le_of_ble_eq_true rfl⟩ (fun r_94 hr_94 => ?_)
              rcases hr_94 with ⟨hb_94, rfl⟩ | ⟨hb_94, rfl⟩
              · refine zr_if_ne (pc := 97) (tgt := 135) hx hb dX8_costumeFor_97 (by decide) (by decide) (fun _ => ?_) (fun z => absurd z (by decide))
                refine lv_iconst (pc := 135) (v := zI 0) hx hb dX8_costumeFor_135 rfl ?_
                refine lv_istore (pc := 136) (lv' := [(5, .int (zI (0))), (0, .ref (am 0)), (1, .int (zI (sc))), (2, .int (zI (a))), (3, .int (zI (b))), (4, .int (zI ((i : Int))))]) hx hb dX8_costumeFor_136 hl (by decide) rfl (fun ls hl => ?_)
                refine lv_iload (pc := 138) hx hb dX8_costumeFor_138 (lv_at hl 0 rfl) ?_
                refine zr_if_eq (pc := 140) (tgt := 171) hx hb dX8_costumeFor_140 (by decide) (by decide) (fun _ => ?_) (fun z => absurd z (by decide))
                refine lv_iload_n (pc := 171) hx hb dX8_costumeFor_171 rfl (lv_at hl 4 rfl) ?_
                refine lv_istore_n (pc := 172) (lv' := [(3, .int (zI (b))), (5, .int (zI (0))), (0, .ref (am 0)), (1, .int (zI (sc))), (2, .int (zI (a))), (4, .int (zI ((i : Int))))]) hx hb dX8_costumeFor_172 rfl hl (by decide) rfl (fun ls hl => ?_)
                refine zr_iinc (pc := 173) (d := ((i : Int)) + 1) (lv' := [(4, .int (zI (((i : Int)) + 1))), (3, .int (zI (b))), (5, .int (zI (0))), (0, .ref (am 0)), (1, .int (zI (sc))), (2, .int (zI (a)))]) hx hb dX8_costumeFor_173 hl (k := 5) rfl rfl (by decide) rfl (fun ls hl => ?_)
                refine lv_goto (pc := 176) (tgt := 31) hx hb dX8_costumeFor_176 (by decide) ?_
                exact ih_31 (i + 1) (b) (⟨by omega, by first | exact h_b.trans (bst_no (fun q => by first | exact q.1.1.1.1 hb_47 | exact q.1.1.1.2.1 hb_60 | exact q.1.1.1.2.2 hb_73 | exact q.1.1.2.1 hb_94 | (have z := q.1.1.2.2; omega) | exact q.1.2 c_128)).symm | exact (bst_yes ⟨⟨⟨⟨hb_47, hb_60, hb_73⟩, hb_94, by omega⟩, c_128⟩, Or.inl (h_b.symm.trans c_147)⟩).symm | exact (bst_yes ⟨⟨⟨⟨hb_47, hb_60, hb_73⟩, hb_94, by omega⟩, c_128⟩, Or.inr (by rw [← h_b]; omega)⟩).symm | exact h_b.trans (bst_no (fun q => q.2.elim (fun z => c_147 (h_b.trans z)) (fun z => by rw [← h_b] at z; omega))).symm⟩) (by omega) ls (lv_sub hl [3, 4, 5, 1, 0] rfl)
              · refine zr_if_ne (pc := 97) (tgt := 135) hx hb dX8_costumeFor_97 (by decide) (by decide) (fun z => absurd z (by decide)) (fun _ => ?_)
                refine lv_aload_n (pc := 100) hx hb dX8_costumeFor_100 rfl (lv_at hl 1 rfl) ?_
                refine lv_iload (pc := 101) hx hb dX8_costumeFor_101 (lv_at hl 5 rfl) ?_
                refine lv_bipush (pc := 103) (v := zI 6) hx hb dX8_costumeFor_103 zc_bipush_6 ?_
                refine zr_vi (pc := 105) (As := [.int (zI ((i : Int))), .int (zI (6))]) (rest := []) S (ct_X8_of l D cI cT am ((su μ 0 0 0)) g (((su_ne (by decide) _ _).trans hg)) hI ((i : Int)) 6 (by omega) (by omega) (by omega) (by omega)) (cwV 2 hts gX8_costumeFor_X8_of rfl rfl rfl (by decide +kernel) ⟨Nat.le_of_ble_eq_true rfl, Nat.le_of_ble_eq_true rfl⟩) zs0 hK hP (zr_recv hK (hP 0 (by decide)) rfl) rfl hl.1 rfl (Nat.le_of_ble_eq_true rfl) dX8_costumeFor_105 ⟨Nat.le_of_ble_eq_true rfl, Nat.le_of_ble_eq_true rfl⟩ (fun r_105 hr_105 => ?_)
                subst hr_105
                refine lv_aload_n (pc := 108) hx hb dX8_costumeFor_108 rfl (lv_at hl 1 rfl) ?_
                refine zr_get (pc := 109) S hK (hP 0 (by decide)) rfl i_X8 1 (by decide) (List.mem_of_getElem? (i := 2) rfl) rfl dX8_costumeFor_109 ?_
                refine lv_bipush (pc := 112) (v := zI 11) hx hb dX8_costumeFor_112 zc_bipush_11 ?_
                refine zr_ald (pc := 114) (n := 572) hx hb (zAr_of (zK_int hK) (hP 1 (by decide))) (by decide) (by decide) (by decide) dX8_costumeFor_114 ?_
                refine zr_top (b := g 11) (congrFun ((su_ne (by decide) _ _).trans hg) _) ?_
                have hdi := iv_di hI (c := (i : Int)) (by omega) (by omega)
                have hdl : 1 ≤ g 11 ∧ g 11 ≤ 9 := iv_dl hI
                have e11 : gS g 3 = g 11 := rfl
                refine zr_icmp_ge (pc := 115) (tgt := 135) hx hb dX8_costumeFor_115 (by decide) (by omega) (by omega) (fun c_115 => ?_) (fun c_115 => ?_)
                · refine lv_iconst (pc := 135) (v := zI 0) hx hb dX8_costumeFor_135 rfl ?_
                  refine lv_istore (pc := 136) (lv' := [(5, .int (zI (0))), (0, .ref (am 0)), (1, .int (zI (sc))), (2, .int (zI (a))), (3, .int (zI (b))), (4, .int (zI ((i : Int))))]) hx hb dX8_costumeFor_136 hl (by decide) rfl (fun ls hl => ?_)
                  refine lv_iload (pc := 138) hx hb dX8_costumeFor_138 (lv_at hl 0 rfl) ?_
                  refine zr_if_eq (pc := 140) (tgt := 171) hx hb dX8_costumeFor_140 (by decide) (by decide) (fun _ => ?_) (fun z => absurd z (by decide))
                  refine lv_iload_n (pc := 171) hx hb dX8_costumeFor_171 rfl (lv_at hl 4 rfl) ?_
                  refine lv_istore_n (pc := 172) (lv' := [(3, .int (zI (b))), (5, .int (zI (0))), (0, .ref (am 0)), (1, .int (zI (sc))), (2, .int (zI (a))), (4, .int (zI ((i : Int))))]) hx hb dX8_costumeFor_172 rfl hl (by decide) rfl (fun ls hl => ?_)
                  refine zr_iinc (pc := 173) (d := ((i : Int)) + 1) (lv' := [(4, .int (zI (((i : Int)) + 1))), (3, .int (zI (b))), (5, .int (zI (0))), (0, .ref (am 0)), (1, .int (zI (sc))), (2, .int (zI (a)))]) hx hb dX8_costumeFor_173 hl (k := 5) rfl rfl (by decide) rfl (fun ls hl => ?_)
                  refine lv_goto (pc := 176) (tgt := 31) hx hb dX8_costumeFor_176 (by decide) ?_
                  exact ih_31 (i + 1) (b) (⟨by omega, by first | exact h_b.trans (bst_no (fun q => by first | exact q.1.1.1.1 hb_47 | exact q.1.1.1.2.1 hb_60 | exact q.1.1.1.2.2 hb_73 | exact q.1.1.2.1 hb_94 | (have z := q.1.1.2.2; omega) | exact q.1.2 c_128)).symm | exact (bst_yes ⟨⟨⟨⟨hb_47, hb_60, hb_73⟩, hb_94, by omega⟩, c_128⟩, Or.inl (h_b.symm.trans c_147)⟩).symm | exact (bst_yes ⟨⟨⟨⟨hb_47, hb_60, hb_73⟩, hb_94, by omega⟩, c_128⟩, Or.inr (by rw [← h_b]; omega)⟩).symm | exact h_b.trans (bst_no (fun q => q.2.elim (fun z => c_147 (h_b.trans z)) (fun z => by rw [← h_b] at z; omega))).symm⟩) (by omega) ls (lv_sub hl [3, 4, 5, 1, 0] rfl)
                · refine lv_aload_n (pc := 118) hx hb dX8_costumeFor_118 rfl (lv_at hl 1 rfl) ?_
                  refine lv_iload (pc := 119) hx hb dX8_costumeFor_119 (lv_at hl 5 rfl) ?_
                  refine lv_iload_n (pc := 121) hx hb dX8_costumeFor_121 rfl (lv_at hl 3 rfl) ?_
                  refine zr_vi (pc := 122) (As := [.int (zI ((i : Int))), .int (zI (a))]) (rest := []) S (ct_X8_leastOf l D cI cT am ((su μ 0 0 0)) g (((su_ne (by decide) _ _).trans hg)) hI ((i : Int)) a (by omega) (by omega) (by omega) (by omega)) (cwV 2 hts gX8_costumeFor_X8_leastOf rfl rfl rfl (by decide +kernel) ⟨Nat.le_of_ble_eq_true rfl, Nat.le_of_ble_eq_true rfl⟩) zs0 hK hP (zr_recv hK (hP 0 (by decide)) rfl) rfl hl.1 rfl (Nat.le_of_ble_eq_true rfl) dX8_costumeFor_122 ⟨Nat.le_of_ble_eq_true rfl, Nat.le_of_ble_eq_true rfl⟩ (fun r_122 hr_122 => ?_)
                  subst hr_122
                  have hs_122 := lst_bd hI (c := ((i : Int))) (a := a) (by omega) (by omega) (by omega) (by omega)
                  refine lv_sipush (pc := 125) (v := zI (-2009)) hx hb dX8_costumeFor_125 zc_sipush_m2009 ?_
                  refine zr_icmp_eq (pc := 128) (tgt := 135) hx hb dX8_costumeFor_128 (by decide) (by omega) (by decide) (fun c_128 => ?_) (fun c_128 => ?_)
                  · refine lv_iconst (pc := 135) (v := zI 0) hx hb dX8_costumeFor_135 rfl ?_
                    refine lv_istore (pc := 136) (lv' := [(5, .int (zI (0))), (0, .ref (am 0)), (1, .int (zI (sc))), (2, .int (zI (a))), (3, .int (zI (b))), (4, .int (zI ((i : Int))))]) hx hb dX8_costumeFor_136 hl (by decide) rfl (fun ls hl => ?_)
                    refine lv_iload (pc := 138) hx hb dX8_costumeFor_138 (lv_at hl 0 rfl) ?_
                    refine zr_if_eq (pc := 140) (tgt := 171) hx hb dX8_costumeFor_140 (by decide) (by decide) (fun _ => ?_) (fun z => absurd z (by decide))
                    refine lv_iload_n (pc := 171) hx hb dX8_costumeFor_171 rfl (lv_at hl 4 rfl) ?_
                    refine lv_istore_n (pc := 172) (lv' := [(3, .int (zI (b))), (5, .int (zI (0))), (0, .ref (am 0)), (1, .int (zI (sc))), (2, .int (zI (a))), (4, .int (zI ((i : Int))))]) hx hb dX8_costumeFor_172 rfl hl (by decide) rfl (fun ls hl => ?_)
                    refine zr_iinc (pc := 173) (d := ((i : Int)) + 1) (lv' := [(4, .int (zI (((i : Int)) + 1))), (3, .int (zI (b))), (5, .int (zI (0))), (0, .ref (am 0)), (1, .int (zI (sc))), (2, .int (zI (a)))]) hx hb dX8_costumeFor_173 hl (k := 5) rfl rfl (by decide) rfl (fun ls hl => ?_)
                    refine lv_goto (pc := 176) (tgt := 31) hx hb dX8_costumeFor_176 (by decide) ?_
                    exact ih_31 (i + 1) (b) (⟨by omega, by first | exact h_b.trans (bst_no (fun q => by first | exact q.1.1.1.1 hb_47 | exact q.1.1.1.2.1 hb_60 | exact q.1.1.1.2.2 hb_73 | exact q.1.1.2.1 hb_94 | (have z := q.1.1.2.2; omega) | exact q.1.2 c_128)).symm | exact (bst_yes ⟨⟨⟨⟨hb_47, hb_60, hb_73⟩, hb_94, by omega⟩, c_128⟩, Or.inl (h_b.symm.trans c_147)⟩).symm | exact (bst_yes ⟨⟨⟨⟨hb_47, hb_60, hb_73⟩, hb_94, by omega⟩, c_128⟩, Or.inr (by rw [← h_b]; omega)⟩).symm | exact h_b.trans (bst_no (fun q => q.2.elim (fun z => c_147 (h_b.trans z)) (fun z => by rw [← h_b] at z; omega))).symm⟩) (by omega) ls (lv_sub hl [3, 4, 5, 1, 0] rfl)
                  · refine lv_iconst (pc := 131) (v := zI 1) hx hb dX8_costumeFor_131 rfl ?_
                    refine lv_goto (pc := 132) (tgt := 136) hx hb dX8_costumeFor_132 (by decide) ?_
                    refine lv_istore (pc := 136) (lv' := [(5, .int (zI (1))), (0, .ref (am 0)), (1, .int (zI (sc))), (2, .int (zI (a))), (3, .int (zI (b))), (4, .int (zI ((i : Int))))]) hx hb dX8_costumeFor_136 hl (by decide) rfl (fun ls hl => ?_)
                    refine lv_iload (pc := 138) hx hb dX8_costumeFor_138 (lv_at hl 0 rfl) ?_
                    refine zr_if_eq (pc := 140) (tgt := 171) hx hb dX8_costumeFor_140 (by decide) (by decide) (fun z => absurd z (by decide)) (fun _ => ?_)
                    refine lv_iload_n (pc := 143) hx hb dX8_costumeFor_143 rfl (lv_at hl 4 rfl) ?_
                    refine lv_sipush (pc := 144) (v := zI (-2009)) hx hb dX8_costumeFor_144 zc_sipush_m2009 ?_
                    refine zr_icmp_eq (pc := 147) (tgt := 166) hx hb dX8_costumeFor_147 (by decide) (by omega) (by decide) (fun c_147 => ?_) (fun c_147 => ?_)
                    · refine lv_iload (pc := 166) hx hb dX8_costumeFor_166 (lv_at hl 5 rfl) ?_
                      refine lv_goto (pc := 168) (tgt := 172) hx hb dX8_costumeFor_168 (by decide) ?_
                      refine lv_istore_n (pc := 172) (lv' := [(3, .int (zI ((i : Int)))), (5, .int (zI (1))), (0, .ref (am 0)), (1, .int (zI (sc))), (2, .int (zI (a))), (4, .int (zI ((i : Int))))]) hx hb dX8_costumeFor_172 rfl hl (by decide) rfl (fun ls hl => ?_)
                      refine zr_iinc (pc := 173) (d := ((i : Int)) + 1) (lv' := [(4, .int (zI (((i : Int)) + 1))), (3, .int (zI ((i : Int)))), (5, .int (zI (1))), (0, .ref (am 0)), (1, .int (zI (sc))), (2, .int (zI (a)))]) hx hb dX8_costumeFor_173 hl (k := 5) rfl rfl (by decide) rfl (fun ls hl => ?_)
                      refine lv_goto (pc := 176) (tgt := 31) hx hb dX8_costumeFor_176 (by decide) ?_
                      exact ih_31 (i + 1) (((i : Int))) (⟨by omega, by first | exact h_b.trans (bst_no (fun q => by first | exact q.1.1.1.1 hb_47 | exact q.1.1.1.2.1 hb_60 | exact q.1.1.1.2.2 hb_73 | exact q.1.1.2.1 hb_94 | (have z := q.1.1.2.2; omega) | exact q.1.2 c_128)).symm | exact (bst_yes ⟨⟨⟨⟨hb_47, hb_60, hb_73⟩, hb_94, by omega⟩, c_128⟩, Or.inl (h_b.symm.trans c_147)⟩).symm | exact (bst_yes ⟨⟨⟨⟨hb_47, hb_60, hb_73⟩, hb_94, by omega⟩, c_128⟩, Or.inr (by rw [← h_b]; omega)⟩).symm | exact h_b.trans (bst_no (fun q => q.2.elim (fun z => c_147 (h_b.trans z)) (fun z => by rw [← h_b] at z; omega))).symm⟩) (by omega) ls (lv_sub hl [3, 4, 5, 1, 0] rfl)
                    · refine lv_aload_n (pc := 150) hx hb dX8_costumeFor_150 rfl (lv_at hl 1 rfl) ?_
                      refine lv_iload (pc := 151) hx hb dX8_costumeFor_151 (lv_at hl 5 rfl) ?_
                      refine lv_iload_n (pc := 153) hx hb dX8_costumeFor_153 rfl (lv_at hl 3 rfl) ?_
                      refine zr_vi (pc := 154) (As := [.int (zI ((i : Int))), .int (zI (a))]) (rest := []) S (ct_X8_leastOf l D cI cT am ((su μ 0 0 0)) g (((su_ne (by decide) _ _).trans hg)) hI ((i : Int)) a (by omega) (by omega) (by omega) (by omega)) (cwV 2 hts gX8_costumeFor_X8_leastOf rfl rfl rfl (by decide +kernel) ⟨Nat.le_of_ble_eq_true rfl, Nat.le_of_ble_eq_true rfl⟩) zs0 hK hP (zr_recv hK (hP 0 (by decide)) rfl) rfl hl.1 rfl (Nat.le_of_ble_eq_true rfl) dX8_costumeFor_154 ⟨Nat.le_of_ble_eq_true rfl, Nat.le_of_ble_eq_true rfl⟩ (fun r_154 hr_154 => ?_)
                      subst hr_154
                      have hs_154 := lst_bd hI (c := ((i : Int))) (a := a) (by omega) (by omega) (by omega) (by omega)
                      refine lv_aload_n (pc := 157) hx hb dX8_costumeFor_157 rfl (lv_at hl 1 rfl) ?_
                      refine lv_iload_n (pc := 158) hx hb dX8_costumeFor_158 rfl (lv_at hl 4 rfl) ?_
                      refine lv_iload_n (pc := 159) hx hb dX8_costumeFor_159 rfl (lv_at hl 3 rfl) ?_
                      refine zr_vi (pc := 160) (As := [.int (zI (b)), .int (zI (a))]) (rest := [.int (zI (lst g ((i : Int)) a))]) S (ct_X8_leastOf l D cI cT am ((su μ 0 0 0)) g (((su_ne (by decide) _ _).trans hg)) hI b a (by omega) (by omega) (by omega) (by omega)) (cwV 2 hts gX8_costumeFor_X8_leastOf rfl rfl rfl (by decide +kernel) ⟨Nat.le_of_ble_eq_true rfl, Nat.le_of_ble_eq_true rfl⟩) zs0 hK hP (zr_recv hK (hP 0 (by decide)) rfl) rfl hl.1 rfl (Nat.le_of_ble_eq_true rfl) dX8_costumeFor_160 ⟨Nat.le_of_ble_eq_true rfl, Nat.le_of_ble_eq_true rfl⟩ (fun r_160 hr_160 => ?_)
                      subst hr_160
                      have hs_160 := lst_bd hI (c := b) (a := a) (by omega) (by omega) (by omega) (by omega)
                      refine zr_icmp_ge (pc := 163) (tgt := 171) hx hb dX8_costumeFor_163 (by decide) (by omega) (by omega) (fun c_163 => ?_) (fun c_163 => ?_)
                      · refine lv_iload_n (pc := 171) hx hb dX8_costumeFor_171 rfl (lv_at hl 4 rfl) ?_
                        refine lv_istore_n (pc := 172) (lv' := [(3, .int (zI (b))), (5, .int (zI (1))), (0, .ref (am 0)), (1, .int (zI (sc))), (2, .int (zI (a))), (4, .int (zI ((i : Int))))]) hx hb dX8_costumeFor_172 rfl hl (by decide) rfl (fun ls hl => ?_)
                        refine zr_iinc (pc := 173) (d := ((i : Int)) + 1) (lv' := [(4, .int (zI (((i : Int)) + 1))), (3, .int (zI (b))), (5, .int (zI (1))), (0, .ref (am 0)), (1, .int (zI (sc))), (2, .int (zI (a)))]) hx hb dX8_costumeFor_173 hl (k := 5) rfl rfl (by decide) rfl (fun ls hl => ?_)
                        refine lv_goto (pc := 176) (tgt := 31) hx hb dX8_costumeFor_176 (by decide) ?_
                        exact ih_31 (i + 1) (b) (⟨by omega, by first | exact h_b.trans (bst_no (fun q => by first | exact q.1.1.1.1 hb_47 | exact q.1.1.1.2.1 hb_60 | exact q.1.1.1.2.2 hb_73 | exact q.1.1.2.1 hb_94 | (have z := q.1.1.2.2; omega) | exact q.1.2 c_128)).symm | exact (bst_yes ⟨⟨⟨⟨hb_47, hb_60, hb_73⟩, hb_94, by omega⟩, c_128⟩, Or.inl (h_b.symm.trans c_147)⟩).symm | exact (bst_yes ⟨⟨⟨⟨hb_47, hb_60, hb_73⟩, hb_94, by omega⟩, c_128⟩, Or.inr (by rw [← h_b]; omega)⟩).symm | exact h_b.trans (bst_no (fun q => q.2.elim (fun z => c_147 (h_b.trans z)) (fun z => by rw [← h_b] at z; omega))).symm⟩) (by omega) ls (lv_sub hl [3, 4, 5, 1, 0] rfl)
                      · refine lv_iload (pc := 166) hx hb dX8_costumeFor_166 (lv_at hl 5 rfl) ?_
                        refine lv_goto (pc := 168) (tgt := 172) hx hb dX8_costumeFor_168 (by decide) ?_
                        refine lv_istore_n (pc := 172) (lv' := [(3, .int (zI ((i : Int)))), (5, .int (zI (1))), (0, .ref (am 0)), (1, .int (zI (sc))), (2, .int (zI (a))), (4, .int (zI ((i : Int))))]) hx hb dX8_costumeFor_172 rfl hl (by decide) rfl (fun ls hl => ?_)
                        refine zr_iinc (pc := 173) (d := ((i : Int)) + 1) (lv' := [(4, .int (zI (((i : Int)) + 1))), (3, .int (zI ((i : Int)))), (5, .int (zI (1))), (0, .ref (am 0)), (1, .int (zI (sc))), (2, .int (zI (a)))]) hx hb dX8_costumeFor_173 hl (k := 5) rfl rfl (by decide) rfl (fun ls hl => ?_)
                        refine lv_goto (pc := 176) (tgt := 31) hx hb dX8_costumeFor_176 (by decide) ?_
                        exact ih_31 (i + 1) (((i : Int))) (⟨by omega, by first | exact h_b.trans (bst_no (fun q => by first | exact q.1.1.1.1 hb_47 | exact q.1.1.1.2.1 hb_60 | exact q.1.1.1.2.2 hb_73 | exact q.1.1.2.1 hb_94 | (have z := q.1.1.2.2; omega) | exact q.1.2 c_128)).symm | exact (bst_yes ⟨⟨⟨⟨hb_47, hb_60, hb_73⟩, hb_94, by omega⟩, c_128⟩, Or.inl (h_b.symm.trans c_147)⟩).symm | exact (bst_yes ⟨⟨⟨⟨hb_47, hb_60, hb_73⟩, hb_94, by omega⟩, c_128⟩, Or.inr (by rw [← h_b]; omega)⟩).symm | exact h_b.trans (bst_no (fun q => q.2.elim (fun z => c_147 (h_b.trans z)) (fun z => by rw [← h_b] at z; omega))).symm⟩) (by omega) ls (lv_sub hl [3, 4, 5, 1, 0] rfl)
    · refine zr_if_ne (pc := 17) (tgt := 24) hx hb dX8_costumeFor_17 (by decide) (by decide) (fun z => absurd z (by decide)) (fun _ => ?_)
      refine lv_sipush (pc := 20) (v := zI (-2001)) hx hb dX8_costumeFor_20 zc_sipush_m2001 ?_
      exact W.iret (v := zI ((-2001))) hx hb hr (fun tz ht hW => ⟨⟨zI ((-2001)), zI ((-2001)), rfl, rfl, by dsimp only; rw [ht]; exact ⟨congrArg zI (Eq.symm (tff (fun q => by omega))), _, (mR_sc hM 0 0 (by decide) (by decide)), hP⟩⟩, hS.F ht⟩) hS.2.2 dX8_costumeFor_23
  · refine zr_if_eq (pc := 9) (tgt := 20) hx hb dX8_costumeFor_9 (by decide) (by decide) (fun _ => ?_) (fun z => absurd z (by decide))
    refine lv_sipush (pc := 20) (v := zI (-2001)) hx hb dX8_costumeFor_20 zc_sipush_m2001 ?_
    exact W.iret (v := zI ((-2001))) hx hb hr (fun tz ht hW => ⟨⟨zI ((-2001)), zI ((-2001)), rfl, rfl, by dsimp only; rw [ht]; exact ⟨congrArg zI (Eq.symm (tff (fun q => by omega))), _, (mR_sc hM 0 0 (by decide) (by decide)), hP⟩⟩, hS.F ht⟩) hS.2.2 dX8_costumeFor_23
