set_option maxHeartbeats 4000000 in
set_option maxRecDepth 100000 in
theorem ct_X0_has (l : Launch) (D : va_G) (cI cT : ClassId) (ad : Nat → Nat) (σ : Nat → Int → Int) (g : Int → Int) (hR : Rel σ g) (hI : Inv g) (a : Int) (r_a : -2147483648 ≤ a ∧ a ≤ 2147483647) : zMr l yX0_has wsX0_has ({ frames := 0, cells := 0, slots := 0, locals := 0 }) D cI cT [.ref (ad 2), .int (zI (a))] (fun _ H => zW D ad 20 (sC cI ad σ) H) (fun r => bz (0 ≤ a ∧ a < g 1) r) := by
  refine Met.ofW (cc := cX0_has) (maxL := 2) (ret := (some .boolean)) (by decide) rfl ?_
  intro p_ e_ s m_ args below meth c_ s₁ B hml hv
  obtain ⟨rfl, hK, hF⟩ := hv
  have hx := B.exec
  have hb := B.bytes
  have hr := B.returns
  have hts := atoms_spec (ws := wsX0_has) B.pre
  have hown : s.vm.findClass RX0 = some m_.cls := findClass_of_methodNamed B.named
  have hlocks := B.notSynchronized
  have S : CallFix p_ m_ c_ cX0_has 2 s _ wsX0_has RX0 := ⟨hx, hb, hml, hown, hts⟩
  have i_X0 : ∀ w ∈ u_ws RX0 TX0 3, w ∈ wsX0_has := fun _ h => List.mem_cons_of_mem _ (List.mem_append_right _ h)
  have hP := hF
  have hnA := iv_nA hI
  have hl := lv_entry ([.ref (ad 2), .int (zI (a))]) (n := 2) (Nat.le_of_ble_eq_true rfl)
  rw [lg_entry_eq]
  generalize (lg_sl ([.ref (ad 2), .int (zI (a))]) ++ List.replicate (2 - (lg_sl ([.ref (ad 2), .int (zI (a))])).length) Slot.unset).toArray = ls at hl ⊢
  have hl : lv_has ls 2 [(0, .ref (ad 2)), (1, .int (zI (a)))] := hl
  refine lv_iload_n (pc := 0) hx hb dX0_has_0 rfl (lv_at hl 1 rfl) ?_
  refine zr_if_lt (pc := 1) (tgt := 16) hx hb dX0_has_1 (by decide) (by omega) (fun c_1 => ?_) (fun c_1 => ?_)
  · refine lv_iconst (pc := 16) (v := zI 0) hx hb dX0_has_16 rfl ?_
    exact W.zret (ty := .boolean) (v := zI (0)) hx hb hr (by first | rfl | decide) (fun tz ht hW => ⟨_, rfl, bz_f (by omega), ht⟩) (fun _ h => by cases h) dX0_has_17
  · refine lv_iload_n (pc := 4) hx hb dX0_has_4 rfl (lv_at hl 1 rfl) ?_
    refine lv_aload_n (pc := 5) hx hb dX0_has_5 rfl (lv_at hl 0 rfl) ?_
    refine zr_get (pc := 6) S hK (hP 2 (by decide)) rfl i_X0 0 (by decide) (List.mem_of_getElem? (i := 1) rfl) rfl dX0_has_6 ?_
    refine zr_top (b := g 1) (rl_nA hR) ?_
    refine zr_icmp_ge (pc := 9) (tgt := 16) hx hb dX0_has_9 (by decide) (by omega) (by omega) (fun c_9 => ?_) (fun c_9 => ?_)
    · refine lv_iconst (pc := 16) (v := zI 0) hx hb dX0_has_16 rfl ?_
      exact W.zret (ty := .boolean) (v := zI (0)) hx hb hr (by first | rfl | decide) (fun tz ht hW => ⟨_, rfl, bz_f (by omega), ht⟩) (fun _ h => by cases h) dX0_has_17
    · refine lv_iconst (pc := 12) (v := zI 1) hx hb dX0_has_12 rfl ?_
      refine lv_goto (pc := 13) (tgt := 17) hx hb dX0_has_13 (by decide) ?_
      exact W.zret (ty := .boolean) (v := zI (1)) hx hb hr (by first | rfl | decide) (fun tz ht hW => ⟨_, rfl, bz_t (by omega), ht⟩) (fun _ h => by cases h) dX0_has_17
set_option maxHeartbeats 4000000 in
set_option maxRecDepth 100000 in
theorem ct_X7_actor (l : Launch) (D : va_G) (cI cT : ClassId) (ad : Nat → Nat) (σ : Nat → Int → Int) (g : Int → Int) (hR : Rel σ g) (hI : Inv g) (tl : Int) (tx rd rp : Int → Int) (a : Int) (k : Int) (r_a : -2147483648 ≤ a ∧ a ≤ 2147483647) (r_k : -2147483648 ≤ k ∧ k ≤ 2147483647) : zMr l yX7_actor wsX7_actor ({ frames := 2, cells := 0, slots := 0, locals := 43 }) D cI cT [.ref (ad 120), .int (zI (a)), .int (zI (k))] (fun _ H => zW D ad 20 (sC cI ad σ) H ∧ cY D cI ad tl tx rd rp H) (fun r => r = zI (qAct g a k)) := by
  refine Met.ofW (cc := cX7_actor) (maxL := 3) (ret := (some .int)) (by decide) rfl ?_
  intro p_ e_ s m_ args below meth c_ s₁ B hml hv
  obtain ⟨rfl, hK, hF⟩ := hv
  have hx := B.exec
  have hb := B.bytes
  have hr := B.returns
  have hts := atoms_spec (ws := wsX7_actor) B.pre
  have hown : s.vm.findClass RX7 = some m_.cls := findClass_of_methodNamed B.named
  have hlocks := B.notSynchronized
  have S : CallFix p_ m_ c_ cX7_actor 3 s _ wsX7_actor RX7 := ⟨hx, hb, hml, hown, hts⟩
  have i_X7 : ∀ w ∈ u_ws RX7 TX7 4, w ∈ wsX7_actor := fun _ h => List.mem_cons_of_mem _ (List.mem_append_left _ (List.mem_append_left _ (List.mem_append_right _ h)))
  have i_X4 : ∀ w ∈ u_ws RX4 TX4 9, w ∈ wsX7_actor := fun _ h => List.mem_cons_of_mem _ (List.mem_append_left _ (List.mem_append_right _ h))
  obtain ⟨hP, hY⟩ := hF
  have hnA := iv_nA hI
  have hl := lv_entry ([.ref (ad 120), .int (zI (a)), .int (zI (k))]) (n := 3) (Nat.le_of_ble_eq_true rfl)
  rw [lg_entry_eq]
  generalize (lg_sl ([.ref (ad 120), .int (zI (a)), .int (zI (k))]) ++ List.replicate (3 - (lg_sl ([.ref (ad 120), .int (zI (a)), .int (zI (k))])).length) Slot.unset).toArray = ls at hl ⊢
  have hl : lv_has ls 3 [(0, .ref (ad 120)), (1, .int (zI (a))), (2, .int (zI (k)))] := hl
  refine lv_aload_n (pc := 0) hx hb dX7_actor_0 rfl (lv_at hl 0 rfl) ?_
  refine zr_get (pc := 1) S hK hY.1 rfl i_X7 0 (by decide) (List.mem_of_getElem? (i := 1) rfl) rfl dX7_actor_1 ?_
  refine zr_get (pc := 4) S hK (hP 0 (by decide)) rfl i_X4 1 (by decide) (List.mem_of_getElem? (i := 2) rfl) rfl dX7_actor_4 ?_
  refine lv_iload_n (pc := 7) hx hb dX7_actor_7 rfl (lv_at hl 1 rfl) ?_
  refine zr_vi (pc := 8) (As := [.int (zI (a))]) (rest := []) S (ct_X0_has l D cI cT ad σ g hR hI a (by omega)) (cwV 1 hts gX7_actor_X0_has rfl rfl rfl (by decide +kernel) ⟨Nat.le_of_ble_eq_true rfl, Nat.le_of_ble_eq_true rfl⟩) zs0 hK hP (zr_recv hK (hP 2 (by decide)) rfl) rfl hl.1 rfl (Nat.le_of_ble_eq_true rfl) dX7_actor_8 ⟨Nat.le_of_ble_eq_true rfl, Nat.le_of_ble_eq_true rfl⟩ (fun r_8 hr_8 => ?_)
  rcases hr_8 with ⟨hb_8, rfl⟩ | ⟨hb_8, rfl⟩
  · refine zr_if_eq (pc := 11) (tgt := 24) hx hb dX7_actor_11 (by decide) (by decide) (fun z => absurd z (by decide)) (fun _ => ?_)
    refine lv_iload_n (pc := 14) hx hb dX7_actor_14 rfl (lv_at hl 2 rfl) ?_
    refine lv_iconst (pc := 15) (v := zI 0) hx hb dX7_actor_15 rfl ?_
    refine lv_bipush (pc := 16) (v := zI 14) hx hb dX7_actor_16 zc_bipush_14 ?_
    refine zr_si (pc := 18) (As := [.int (zI (k)), .int (zI (0)), .int (zI (14))]) (rest := []) S (ct_X7_isWithin l D cI cT k 0 14 (by omega) (by decide) (by decide)) (va_cwS 3 hts gX7_actor_X7_isWithin rfl rfl rfl (by decide +kernel) ⟨Nat.le_of_ble_eq_true rfl, Nat.le_of_ble_eq_true rfl⟩) zs0 hK trivial rfl hl.1 rfl (Nat.le_of_ble_eq_true rfl) dX7_actor_18 ⟨Nat.le_of_ble_eq_true rfl, Nat.le_of_ble_eq_true rfl⟩ (fun r_18 hr_18 => ?_)
    rcases hr_18 with ⟨hb_18, rfl⟩ | ⟨hb_18, rfl⟩
    · refine zr_if_ne (pc := 21) (tgt := 28) hx hb dX7_actor_21 (by decide) (by decide) (fun _ => ?_) (fun z => absurd z (by decide))
      refine lv_iload_n (pc := 28) hx hb dX7_actor_28 rfl (lv_at hl 2 rfl) ?_
      refine lv_iconst (pc := 29) (v := zI 3) hx hb dX7_actor_29 rfl ?_
      refine zr_icmp_ge (pc := 30) (tgt := 46) hx hb dX7_actor_30 (by decide) (by omega) (by decide) (fun c_30 => ?_) (fun c_30 => ?_)
      · refine lv_aload_n (pc := 46) hx hb dX7_actor_46 rfl (lv_at hl 0 rfl) ?_
        refine zr_get (pc := 47) S hK hY.1 rfl i_X7 0 (by decide) (List.mem_of_getElem? (i := 1) rfl) rfl dX7_actor_47 ?_
        refine zr_get (pc := 50) S hK (hP 0 (by decide)) rfl i_X4 1 (by decide) (List.mem_of_getElem? (i := 2) rfl) rfl dX7_actor_50 ?_
        refine lv_iload_n (pc := 53) hx hb dX7_actor_53 rfl (lv_at hl 2 rfl) ?_
        refine lv_iconst (pc := 54) (v := zI 3) hx hb dX7_actor_54 rfl ?_
        refine zr_isub (pc := 55) (d := k - 3) hx hb dX7_actor_55 rfl ?_
        refine lv_iload_n (pc := 56) hx hb dX7_actor_56 rfl (lv_at hl 1 rfl) ?_
        refine zr_vi (pc := 57) (As := [.int (zI (k - 3)), .int (zI (a))]) (rest := []) S (ct_X0_wornIn l D cI cT ad σ g hR hI (k - 3) a (by omega) (by omega) (by omega) (by omega)) (cwV 2 hts gX7_actor_X0_wornIn rfl rfl rfl (by decide +kernel) ⟨Nat.le_of_ble_eq_true rfl, Nat.le_of_ble_eq_true rfl⟩) zs0 hK hP (zr_recv hK (hP 2 (by decide)) rfl) rfl hl.1 rfl (Nat.le_of_ble_eq_true rfl) dX7_actor_57 ⟨Nat.le_of_ble_eq_true rfl, Nat.le_of_ble_eq_true rfl⟩ (fun r_57 hr_57 => ?_)
        subst hr_57
        have hw_57 := iv_wo hI (a := a) (sc := (k - 3)) (by omega) (by omega) (by omega) (by omega)
        exact W.iret (v := zI (gW g (k - 3) a)) hx hb hr (fun tz ht hW => ⟨_, rfl, congrArg zI (Eq.symm ((tft (by omega)).trans (by first | exact tft (by omega) | exact tff (by omega)))), ht⟩) (fun _ h => by cases h) dX7_actor_60
      · refine lv_aload_n (pc := 33) hx hb dX7_actor_33 rfl (lv_at hl 0 rfl) ?_
        refine zr_get (pc := 34) S hK hY.1 rfl i_X7 0 (by decide) (List.mem_of_getElem? (i := 1) rfl) rfl dX7_actor_34 ?_
        refine zr_get (pc := 37) S hK (hP 0 (by decide)) rfl i_X4 1 (by decide) (List.mem_of_getElem? (i := 2) rfl) rfl dX7_actor_37 ?_
        refine lv_iload_n (pc := 40) hx hb dX7_actor_40 rfl (lv_at hl 1 rfl) ?_
        refine lv_iload_n (pc := 41) hx hb dX7_actor_41 rfl (lv_at hl 2 rfl) ?_
        refine zr_vi (pc := 42) (As := [.int (zI (a)), .int (zI (k))]) (rest := []) S (ct_X0_measureOf l D cI cT ad σ g hR hI a k (by omega) (by omega) (by omega) (by omega)) (cwV 2 hts gX7_actor_X0_measureOf rfl rfl rfl (by decide +kernel) ⟨Nat.le_of_ble_eq_true rfl, Nat.le_of_ble_eq_true rfl⟩) zs0 hK hP (zr_recv hK (hP 2 (by decide)) rfl) rfl hl.1 rfl (Nat.le_of_ble_eq_true rfl) dX7_actor_42 ⟨Nat.le_of_ble_eq_true rfl, Nat.le_of_ble_eq_true rfl⟩ (fun r_42 hr_42 => ?_)
        subst hr_42
        exact W.iret (v := zI (gA g a k)) hx hb hr (fun tz ht hW => ⟨_, rfl, congrArg zI (Eq.symm ((tft (by omega)).trans (by first | exact tft (by omega) | exact tff (by omega)))), ht⟩) (fun _ h => by cases h) dX7_actor_45
    · refine zr_if_ne (pc := 21) (tgt := 28) hx hb dX7_actor_21 (by decide) (by decide) (fun z => absurd z (by decide)) (fun _ => ?_)
      refine lv_sipush (pc := 24) (v := zI (-2001)) hx hb dX7_actor_24 zc_sipush_m2001 ?_
      exact W.iret (v := zI ((-2001))) hx hb hr (fun tz ht hW => ⟨_, rfl, congrArg zI (Eq.symm (tff (fun q => by omega))), ht⟩) (fun _ h => by cases h) dX7_actor_27
  · refine zr_if_eq (pc := 11) (tgt := 24) hx hb dX7_actor_11 (by decide) (by decide) (fun _ => ?_) (fun z => absurd z (by decide))
    refine lv_sipush (pc := 24) (v := zI (-2001)) hx hb dX7_actor_24 zc_sipush_m2001 ?_
    exact W.iret (v := zI ((-2001))) hx hb hr (fun tz ht hW => ⟨_, rfl, congrArg zI (Eq.symm (tff (fun q => by omega))), ht⟩) (fun _ h => by cases h) dX7_actor_27
set_option maxHeartbeats 4000000 in
set_option maxRecDepth 100000 in
theorem ct_X7_problems (l : Launch) (D : va_G) (cI cT : ClassId) (ad : Nat → Nat) (σ : Nat → Int → Int) (g : Int → Int) (hR : Rel σ g) (hI : Inv g) (tl : Int) (tx rd rp : Int → Int) (k : Int) (r_k : -2147483648 ≤ k ∧ k ≤ 2147483647) : zMr l yX7_problems wsX7_problems ({ frames := 7, cells := 0, slots := 0, locals := 166 }) D cI cT [.ref (ad 120), .int (zI (k))] (fun _ H => zW D ad 20 (sC cI ad σ) H ∧ cY D cI ad tl tx rd rp H) (fun r => r = zI (qPrb g k)) := by
  refine Met.ofW (cc := cX7_problems) (maxL := 2) (ret := (some .int)) (by decide) rfl ?_
  intro p_ e_ s m_ args below meth c_ s₁ B hml hv
  obtain ⟨rfl, hK, hF⟩ := hv
  have hx := B.exec
  have hb := B.bytes
  have hr := B.returns
  have hts := atoms_spec (ws := wsX7_problems) B.pre
  have hown : s.vm.findClass RX7 = some m_.cls := findClass_of_methodNamed B.named
  have hlocks := B.notSynchronized
  have S : CallFix p_ m_ c_ cX7_problems 2 s _ wsX7_problems RX7 := ⟨hx, hb, hml, hown, hts⟩
  have i_X7 : ∀ w ∈ u_ws RX7 TX7 4, w ∈ wsX7_problems := fun _ h => List.mem_cons_of_mem _ (List.mem_append_left _ (List.mem_append_left _ (List.mem_append_left _ (List.mem_append_left _ (List.mem_append_right _ h)))))
  obtain ⟨hP, hY⟩ := hF
  have hl := lv_entry ([.ref (ad 120), .int (zI (k))]) (n := 2) (Nat.le_of_ble_eq_true rfl)
  rw [lg_entry_eq]
  generalize (lg_sl ([.ref (ad 120), .int (zI (k))]) ++ List.replicate (2 - (lg_sl ([.ref (ad 120), .int (zI (k))])).length) Slot.unset).toArray = ls at hl ⊢
  have hl : lv_has ls 2 [(0, .ref (ad 120)), (1, .int (zI (k)))] := hl
  refine lv_iload_n (pc := 0) hx hb dX7_problems_0 rfl (lv_at hl 1 rfl) ?_
  refine lv_iconst (pc := 1) (v := zI 0) hx hb dX7_problems_1 rfl ?_
  refine lv_iconst (pc := 2) (v := zI 4) hx hb dX7_problems_2 rfl ?_
  refine zr_si (pc := 3) (As := [.int (zI (k)), .int (zI (0)), .int (zI (4))]) (rest := []) S (ct_X7_isWithin l D cI cT k 0 4 (by omega) (by decide) (by decide)) (va_cwS 3 hts gX7_problems_X7_isWithin rfl rfl rfl (by decide +kernel) ⟨Nat.le_of_ble_eq_true rfl, Nat.le_of_ble_eq_true rfl⟩) zs0 hK trivial rfl hl.1 rfl (Nat.le_of_ble_eq_true rfl) dX7_problems_3 ⟨Nat.le_of_ble_eq_true rfl, Nat.le_of_ble_eq_true rfl⟩ (fun r_3 hr_3 => ?_)
  rcases hr_3 with ⟨hb_3, rfl⟩ | ⟨hb_3, rfl⟩
  · refine zr_if_eq (pc := 6) (tgt := 20) hx hb dX7_problems_6 (by decide) (by decide) (fun z => absurd z (by decide)) (fun _ => ?_)
    refine lv_aload_n (pc := 9) hx hb dX7_problems_9 rfl (lv_at hl 0 rfl) ?_
    refine zr_get (pc := 10) S hK hY.1 rfl i_X7 0 (by decide) (List.mem_of_getElem? (i := 1) rfl) rfl dX7_problems_10 ?_
    refine lv_iload_n (pc := 13) hx hb dX7_problems_13 rfl (lv_at hl 1 rfl) ?_
    refine zr_vi (pc := 14) (As := [.int (zI (k))]) (rest := []) S (ct_X4_problemsOf l D cI cT ad σ g hR hI k (by omega) (by omega)) (cwV 1 hts gX7_problems_X4_problemsOf rfl rfl rfl (by decide +kernel) ⟨Nat.le_of_ble_eq_true rfl, Nat.le_of_ble_eq_true rfl⟩) zs0 hK hP (zr_recv hK (hP 0 (by decide)) rfl) rfl hl.1 rfl (Nat.le_of_ble_eq_true rfl) dX7_problems_14 ⟨Nat.le_of_ble_eq_true rfl, Nat.le_of_ble_eq_true rfl⟩ (fun r_14 hr_14 => ?_)
    subst hr_14
    have hpb_14 := prb_bd hI k
    refine lv_goto (pc := 17) (tgt := 23) hx hb dX7_problems_17 (by decide) ?_
    exact W.iret (v := zI (prb g k)) hx hb hr (fun tz ht hW => ⟨_, rfl, congrArg zI (Eq.symm (tft (by omega))), ht⟩) (fun _ h => by cases h) dX7_problems_23
  · refine zr_if_eq (pc := 6) (tgt := 20) hx hb dX7_problems_6 (by decide) (by decide) (fun _ => ?_) (fun z => absurd z (by decide))
    refine lv_sipush (pc := 20) (v := zI (-2001)) hx hb dX7_problems_20 zc_sipush_m2001 ?_
    exact W.iret (v := zI ((-2001))) hx hb hr (fun tz ht hW => ⟨_, rfl, congrArg zI (Eq.symm (tff (fun q => by omega))), ht⟩) (fun _ h => by cases h) dX7_problems_23
set_option maxHeartbeats 4000000 in
set_option maxRecDepth 100000 in
theorem ct_X7_misfit (l : Launch) (D : va_G) (cI cT : ClassId) (ad : Nat → Nat) (σ : Nat → Int → Int) (g : Int → Int) (hR : Rel σ g) (hI : Inv g) (tl : Int) (tx rd rp : Int → Int) (c : Int) (a : Int) (r_c : -2147483648 ≤ c ∧ c ≤ 2147483647) (r_a : -2147483648 ≤ a ∧ a ≤ 2147483647) : zMr l yX7_misfit wsX7_misfit ({ frames := 5, cells := 0, slots := 0, locals := 119 }) D cI cT [.ref (ad 120), .int (zI (c)), .int (zI (a))] (fun _ H => zW D ad 20 (sC cI ad σ) H ∧ cY D cI ad tl tx rd rp H) (fun r => r = zI (qMis g c a)) := by
  refine Met.ofW (cc := cX7_misfit) (maxL := 3) (ret := (some .int)) (by decide) rfl ?_
  intro p_ e_ s m_ args below meth c_ s₁ B hml hv
  obtain ⟨rfl, hK, hF⟩ := hv
  have hx := B.exec
  have hb := B.bytes
  have hr := B.returns
  have hts := atoms_spec (ws := wsX7_misfit) B.pre
  have hown : s.vm.findClass RX7 = some m_.cls := findClass_of_methodNamed B.named
  have hlocks := B.notSynchronized
  have S : CallFix p_ m_ c_ cX7_misfit 3 s _ wsX7_misfit RX7 := ⟨hx, hb, hml, hown, hts⟩
  have i_X7 : ∀ w ∈ u_ws RX7 TX7 4, w ∈ wsX7_misfit := fun _ h => List.mem_cons_of_mem _ (List.mem_append_left _ (List.mem_append_left _ (List.mem_append_left _ (List.mem_append_right _ h))))
  have i_X4 : ∀ w ∈ u_ws RX4 TX4 9, w ∈ wsX7_misfit := fun _ h => List.mem_cons_of_mem _ (List.mem_append_left _ (List.mem_append_left _ (List.mem_append_right _ h)))
  obtain ⟨hP, hY⟩ := hF
  have hnC := iv_nC hI
  have hnA := iv_nA hI
  have hl := lv_entry ([.ref (ad 120), .int (zI (c)), .int (zI (a))]) (n := 3) (Nat.le_of_ble_eq_true rfl)
  rw [lg_entry_eq]
  generalize (lg_sl ([.ref (ad 120), .int (zI (c)), .int (zI (a))]) ++ List.replicate (3 - (lg_sl ([.ref (ad 120), .int (zI (c)), .int (zI (a))])).length) Slot.unset).toArray = ls at hl ⊢
  have hl : lv_has ls 3 [(0, .ref (ad 120)), (1, .int (zI (c))), (2, .int (zI (a)))] := hl
  refine lv_aload_n (pc := 0) hx hb dX7_misfit_0 rfl (lv_at hl 0 rfl) ?_
  refine zr_get (pc := 1) S hK hY.1 rfl i_X7 0 (by decide) (List.mem_of_getElem? (i := 1) rfl) rfl dX7_misfit_1 ?_
  refine zr_get (pc := 4) S hK (hP 0 (by decide)) rfl i_X4 0 (by decide) (List.mem_of_getElem? (i := 2) rfl) rfl dX7_misfit_4 ?_
  refine lv_iload_n (pc := 7) hx hb dX7_misfit_7 rfl (lv_at hl 1 rfl) ?_
  refine zr_vi (pc := 8) (As := [.int (zI (c))]) (rest := []) S (ct_X6_has l D cI cT ad σ g hR hI c (by omega)) (cwV 1 hts gX7_misfit_X6_has rfl rfl rfl (by decide +kernel) ⟨Nat.le_of_ble_eq_true rfl, Nat.le_of_ble_eq_true rfl⟩) zs0 hK hP (zr_recv hK (hP 1 (by decide)) rfl) rfl hl.1 rfl (Nat.le_of_ble_eq_true rfl) dX7_misfit_8 ⟨Nat.le_of_ble_eq_true rfl, Nat.le_of_ble_eq_true rfl⟩ (fun r_8 hr_8 => ?_)
  rcases hr_8 with ⟨hb_8, rfl⟩ | ⟨hb_8, rfl⟩
  · refine zr_if_eq (pc := 11) (tgt := 28) hx hb dX7_misfit_11 (by decide) (by decide) (fun z => absurd z (by decide)) (fun _ => ?_)
    refine lv_aload_n (pc := 14) hx hb dX7_misfit_14 rfl (lv_at hl 0 rfl) ?_
    refine zr_get (pc := 15) S hK hY.1 rfl i_X7 0 (by decide) (List.mem_of_getElem? (i := 1) rfl) rfl dX7_misfit_15 ?_
    refine zr_get (pc := 18) S hK (hP 0 (by decide)) rfl i_X4 1 (by decide) (List.mem_of_getElem? (i := 3) rfl) rfl dX7_misfit_18 ?_
    refine lv_iload_n (pc := 21) hx hb dX7_misfit_21 rfl (lv_at hl 2 rfl) ?_
    refine zr_vi (pc := 22) (As := [.int (zI (a))]) (rest := []) S (ct_X0_has l D cI cT ad σ g hR hI a (by omega)) (cwV 1 hts gX7_misfit_X0_has rfl rfl rfl (by decide +kernel) ⟨Nat.le_of_ble_eq_true rfl, Nat.le_of_ble_eq_true rfl⟩) zs0 hK hP (zr_recv hK (hP 2 (by decide)) rfl) rfl hl.1 rfl (Nat.le_of_ble_eq_true rfl) dX7_misfit_22 ⟨Nat.le_of_ble_eq_true rfl, Nat.le_of_ble_eq_true rfl⟩ (fun r_22 hr_22 => ?_)
    rcases hr_22 with ⟨hb_22, rfl⟩ | ⟨hb_22, rfl⟩
    · refine zr_if_ne (pc := 25) (tgt := 32) hx hb dX7_misfit_25 (by decide) (by decide) (fun _ => ?_) (fun z => absurd z (by decide))
      refine lv_aload_n (pc := 32) hx hb dX7_misfit_32 rfl (lv_at hl 0 rfl) ?_
      refine zr_get (pc := 33) S hK hY.1 rfl i_X7 0 (by decide) (List.mem_of_getElem? (i := 1) rfl) rfl dX7_misfit_33 ?_
      refine lv_iload_n (pc := 36) hx hb dX7_misfit_36 rfl (lv_at hl 1 rfl) ?_
      refine lv_iload_n (pc := 37) hx hb dX7_misfit_37 rfl (lv_at hl 2 rfl) ?_
      refine zr_vi (pc := 38) (As := [.int (zI (c)), .int (zI (a))]) (rest := []) S (ct_X4_misfitOf l D cI cT ad σ g hR hI c a (by omega) (by omega) (by omega) (by omega)) (cwV 2 hts gX7_misfit_X4_misfitOf rfl rfl rfl (by decide +kernel) ⟨Nat.le_of_ble_eq_true rfl, Nat.le_of_ble_eq_true rfl⟩) zs0 hK hP (zr_recv hK (hP 0 (by decide)) rfl) rfl hl.1 rfl (Nat.le_of_ble_eq_true rfl) dX7_misfit_38 ⟨Nat.le_of_ble_eq_true rfl, Nat.le_of_ble_eq_true rfl⟩ (fun r_38 hr_38 => ?_)
      subst hr_38
      have hm_38 := mis_bd hI (c := c) (a := a) (by omega) (by omega) (by omega) (by omega)
      exact W.iret (v := zI (mis g c a)) hx hb hr (fun tz ht hW => ⟨_, rfl, congrArg zI (Eq.symm (tft (by omega))), ht⟩) (fun _ h => by cases h) dX7_misfit_41
    · refine zr_if_ne (pc := 25) (tgt := 32) hx hb dX7_misfit_25 (by decide) (by decide) (fun z => absurd z (by decide)) (fun _ => ?_)
      refine lv_sipush (pc := 28) (v := zI (-2001)) hx hb dX7_misfit_28 zc_sipush_m2001 ?_
      exact W.iret (v := zI ((-2001))) hx hb hr (fun tz ht hW => ⟨_, rfl, congrArg zI (Eq.symm (tff (fun q => by omega))), ht⟩) (fun _ h => by cases h) dX7_misfit_31
  · refine zr_if_eq (pc := 11) (tgt := 28) hx hb dX7_misfit_11 (by decide) (by decide) (fun _ => ?_) (fun z => absurd z (by decide))
    refine lv_sipush (pc := 28) (v := zI (-2001)) hx hb dX7_misfit_28 zc_sipush_m2001 ?_
    exact W.iret (v := zI ((-2001))) hx hb hr (fun tz ht hW => ⟨_, rfl, congrArg zI (Eq.symm (tff (fun q => by omega))), ht⟩) (fun _ h => by cases h) dX7_misfit_31
set_option maxHeartbeats 4000000 in
set_option maxRecDepth 100000 in
theorem ct_X7_leastAlteration (l : Launch) (D : va_G) (cI cT : ClassId) (ad : Nat → Nat) (σ : Nat → Int → Int) (g : Int → Int) (hR : Rel σ g) (hI : Inv g) (tl : Int) (tx rd rp : Int → Int) (c : Int) (a : Int) (r_c : -2147483648 ≤ c ∧ c ≤ 2147483647) (r_a : -2147483648 ≤ a ∧ a ≤ 2147483647) : zMr l yX7_leastAlteration wsX7_leastAlteration ({ frames := 5, cells := 0, slots := 0, locals := 121 }) D cI cT [.ref (ad 120), .int (zI (c)), .int (zI (a))] (fun _ H => zW D ad 20 (sC cI ad σ) H ∧ cY D cI ad tl tx rd rp H) (fun r => r = zI (qLst g c a)) := by
  refine Met.ofW (cc := cX7_leastAlteration) (maxL := 3) (ret := (some .int)) (by decide) rfl ?_
  intro p_ e_ s m_ args below meth c_ s₁ B hml hv
  obtain ⟨rfl, hK, hF⟩ := hv
  have hx := B.exec
  have hb := B.bytes
  have hr := B.returns
  have hts := atoms_spec (ws := wsX7_leastAlteration) B.pre
  have hown : s.vm.findClass RX7 = some m_.cls := findClass_of_methodNamed B.named
  have hlocks := B.notSynchronized
  have S : CallFix p_ m_ c_ cX7_leastAlteration 3 s _ wsX7_leastAlteration RX7 := ⟨hx, hb, hml, hown, hts⟩
  have i_X7 : ∀ w ∈ u_ws RX7 TX7 4, w ∈ wsX7_leastAlteration := fun _ h => List.mem_cons_of_mem _ (List.mem_append_left _ (List.mem_append_left _ (List.mem_append_left _ (List.mem_append_right _ h))))
  have i_X4 : ∀ w ∈ u_ws RX4 TX4 9, w ∈ wsX7_leastAlteration := fun _ h => List.mem_cons_of_mem _ (List.mem_append_left _ (List.mem_append_left _ (List.mem_append_right _ h)))
  obtain ⟨hP, hY⟩ := hF
  have hnC := iv_nC hI
  have hnA := iv_nA hI
  have hl := lv_entry ([.ref (ad 120), .int (zI (c)), .int (zI (a))]) (n := 3) (Nat.le_of_ble_eq_true rfl)
  rw [lg_entry_eq]
  generalize (lg_sl ([.ref (ad 120), .int (zI (c)), .int (zI (a))]) ++ List.replicate (3 - (lg_sl ([.ref (ad 120), .int (zI (c)), .int (zI (a))])).length) Slot.unset).toArray = ls at hl ⊢
  have hl : lv_has ls 3 [(0, .ref (ad 120)), (1, .int (zI (c))), (2, .int (zI (a)))] := hl
  refine lv_aload_n (pc := 0) hx hb dX7_leastAlteration_0 rfl (lv_at hl 0 rfl) ?_
  refine zr_get (pc := 1) S hK hY.1 rfl i_X7 0 (by decide) (List.mem_of_getElem? (i := 1) rfl) rfl dX7_leastAlteration_1 ?_
  refine zr_get (pc := 4) S hK (hP 0 (by decide)) rfl i_X4 0 (by decide) (List.mem_of_getElem? (i := 2) rfl) rfl dX7_leastAlteration_4 ?_
  refine lv_iload_n (pc := 7) hx hb dX7_leastAlteration_7 rfl (lv_at hl 1 rfl) ?_
  refine zr_vi (pc := 8) (As := [.int (zI (c))]) (rest := []) S (ct_X6_has l D cI cT ad σ g hR hI c (by omega)) (cwV 1 hts gX7_leastAlteration_X6_has rfl rfl rfl (by decide +kernel) ⟨Nat.le_of_ble_eq_true rfl, Nat.le_of_ble_eq_true rfl⟩) zs0 hK hP (zr_recv hK (hP 1 (by decide)) rfl) rfl hl.1 rfl (Nat.le_of_ble_eq_true rfl) dX7_leastAlteration_8 ⟨Nat.le_of_ble_eq_true rfl, Nat.le_of_ble_eq_true rfl⟩ (fun r_8 hr_8 => ?_)
  rcases hr_8 with ⟨hb_8, rfl⟩ | ⟨hb_8, rfl⟩
  · refine zr_if_eq (pc := 11) (tgt := 28) hx hb dX7_leastAlteration_11 (by decide) (by decide) (fun z => absurd z (by decide)) (fun _ => ?_)
    refine lv_aload_n (pc := 14) hx hb dX7_leastAlteration_14 rfl (lv_at hl 0 rfl) ?_
    refine zr_get (pc := 15) S hK hY.1 rfl i_X7 0 (by decide) (List.mem_of_getElem? (i := 1) rfl) rfl dX7_leastAlteration_15 ?_
    refine zr_get (pc := 18) S hK (hP 0 (by decide)) rfl i_X4 1 (by decide) (List.mem_of_getElem? (i := 3) rfl) rfl dX7_leastAlteration_18 ?_
    refine lv_iload_n (pc := 21) hx hb dX7_leastAlteration_21 rfl (lv_at hl 2 rfl) ?_
    refine zr_vi (pc := 22) (As := [.int (zI (a))]) (rest := []) S (ct_X0_has l D cI cT ad σ g hR hI a (by omega)) (cwV 1 hts gX7_leastAlteration_X0_has rfl rfl rfl (by decide +kernel) ⟨Nat.le_of_ble_eq_true rfl, Nat.le_of_ble_eq_true rfl⟩) zs0 hK hP (zr_recv hK (hP 2 (by decide)) rfl) rfl hl.1 rfl (Nat.le_of_ble_eq_true rfl) dX7_leastAlteration_22 ⟨Nat.le_of_ble_eq_true rfl, Nat.le_of_ble_eq_true rfl⟩ (fun r_22 hr_22 => ?_)
    rcases hr_22 with ⟨hb_22, rfl⟩ | ⟨hb_22, rfl⟩
    · refine zr_if_ne (pc := 25) (tgt := 32) hx hb dX7_leastAlteration_25 (by decide) (by decide) (fun _ => ?_) (fun z => absurd z (by decide))
      refine lv_aload_n (pc := 32) hx hb dX7_leastAlteration_32 rfl (lv_at hl 0 rfl) ?_
      refine zr_get (pc := 33) S hK hY.1 rfl i_X7 0 (by decide) (List.mem_of_getElem? (i := 1) rfl) rfl dX7_leastAlteration_33 ?_
      refine lv_iload_n (pc := 36) hx hb dX7_leastAlteration_36 rfl (lv_at hl 1 rfl) ?_
      refine lv_iload_n (pc := 37) hx hb dX7_leastAlteration_37 rfl (lv_at hl 2 rfl) ?_
      refine zr_vi (pc := 38) (As := [.int (zI (c)), .int (zI (a))]) (rest := []) S (ct_X4_leastChange l D cI cT ad σ g hR hI c a (by omega) (by omega) (by omega) (by omega)) (cwV 2 hts gX7_leastAlteration_X4_leastChange rfl rfl rfl (by decide +kernel) ⟨Nat.le_of_ble_eq_true rfl, Nat.le_of_ble_eq_true rfl⟩) zs0 hK hP (zr_recv hK (hP 0 (by decide)) rfl) rfl hl.1 rfl (Nat.le_of_ble_eq_true rfl) dX7_leastAlteration_38 ⟨Nat.le_of_ble_eq_true rfl, Nat.le_of_ble_eq_true rfl⟩ (fun r_38 hr_38 => ?_)
      subst hr_38
      have hs_38 := lst_bd hI (c := c) (a := a) (by omega) (by omega) (by omega) (by omega)
      exact W.iret (v := zI (lst g c a)) hx hb hr (fun tz ht hW => ⟨_, rfl, congrArg zI (Eq.symm (tft (by omega))), ht⟩) (fun _ h => by cases h) dX7_leastAlteration_41
    · refine zr_if_ne (pc := 25) (tgt := 32) hx hb dX7_leastAlteration_25 (by decide) (by decide) (fun z => absurd z (by decide)) (fun _ => ?_)
      refine lv_sipush (pc := 28) (v := zI (-2001)) hx hb dX7_leastAlteration_28 zc_sipush_m2001 ?_
      exact W.iret (v := zI ((-2001))) hx hb hr (fun tz ht hW => ⟨_, rfl, congrArg zI (Eq.symm (tff (fun q => by omega))), ht⟩) (fun _ h => by cases h) dX7_leastAlteration_31
  · refine zr_if_eq (pc := 11) (tgt := 28) hx hb dX7_leastAlteration_11 (by decide) (by decide) (fun _ => ?_) (fun z => absurd z (by decide))
    refine lv_sipush (pc := 28) (v := zI (-2001)) hx hb dX7_leastAlteration_28 zc_sipush_m2001 ?_
    exact W.iret (v := zI ((-2001))) hx hb hr (fun tz ht hW => ⟨_, rfl, congrArg zI (Eq.symm (tff (fun q => by omega))), ht⟩) (fun _ h => by cases h) dX7_leastAlteration_31
set_option maxHeartbeats 4000000 in
set_option maxRecDepth 100000 in
theorem ct_X7_costumeFor (l : Launch) (D : va_G) (cI cT : ClassId) (ad : Nat → Nat) (σ : Nat → Int → Int) (g : Int → Int) (hR : Rel σ g) (hI : Inv g) (tl : Int) (tx rd rp : Int → Int) (sc : Int) (a : Int) (r_sc : -2147483648 ≤ sc ∧ sc ≤ 2147483647) (r_a : -2147483648 ≤ a ∧ a ≤ 2147483647) : zMr l yX7_costumeFor wsX7_costumeFor ({ frames := 6, cells := 0, slots := 0, locals := 147 }) D cI cT [.ref (ad 120), .int (zI (sc)), .int (zI (a))] (fun _ H => zW D ad 20 (sC cI ad σ) H ∧ cY D cI ad tl tx rd rp H) (fun r => r = zI (qFor g sc a)) := by
  refine Met.ofW (cc := cX7_costumeFor) (maxL := 3) (ret := (some .int)) (by decide) rfl ?_
  intro p_ e_ s m_ args below meth c_ s₁ B hml hv
  obtain ⟨rfl, hK, hF⟩ := hv
  have hx := B.exec
  have hb := B.bytes
  have hr := B.returns
  have hts := atoms_spec (ws := wsX7_costumeFor) B.pre
  have hown : s.vm.findClass RX7 = some m_.cls := findClass_of_methodNamed B.named
  have hlocks := B.notSynchronized
  have S : CallFix p_ m_ c_ cX7_costumeFor 3 s _ wsX7_costumeFor RX7 := ⟨hx, hb, hml, hown, hts⟩
  have i_X7 : ∀ w ∈ u_ws RX7 TX7 4, w ∈ wsX7_costumeFor := fun _ h => List.mem_cons_of_mem _ (List.mem_append_left _ (List.mem_append_left _ (List.mem_append_left _ (List.mem_append_left _ (List.mem_append_right _ h)))))
  have i_X4 : ∀ w ∈ u_ws RX4 TX4 9, w ∈ wsX7_costumeFor := fun _ h => List.mem_cons_of_mem _ (List.mem_append_left _ (List.mem_append_left _ (List.mem_append_left _ (List.mem_append_right _ h))))
  obtain ⟨hP, hY⟩ := hF
  have hnC := iv_nC hI
  have hnA := iv_nA hI
  have hl := lv_entry ([.ref (ad 120), .int (zI (sc)), .int (zI (a))]) (n := 3) (Nat.le_of_ble_eq_true rfl)
  rw [lg_entry_eq]
  generalize (lg_sl ([.ref (ad 120), .int (zI (sc)), .int (zI (a))]) ++ List.replicate (3 - (lg_sl ([.ref (ad 120), .int (zI (sc)), .int (zI (a))])).length) Slot.unset).toArray = ls at hl ⊢
  have hl : lv_has ls 3 [(0, .ref (ad 120)), (1, .int (zI (sc))), (2, .int (zI (a)))] := hl
  refine lv_iload_n (pc := 0) hx hb dX7_costumeFor_0 rfl (lv_at hl 1 rfl) ?_
  refine lv_iconst (pc := 1) (v := zI 0) hx hb dX7_costumeFor_1 rfl ?_
  refine lv_bipush (pc := 2) (v := zI 11) hx hb dX7_costumeFor_2 zc_bipush_11 ?_
  refine zr_si (pc := 4) (As := [.int (zI (sc)), .int (zI (0)), .int (zI (11))]) (rest := []) S (ct_X7_isWithin l D cI cT sc 0 11 (by omega) (by decide) (by decide)) (va_cwS 3 hts gX7_costumeFor_X7_isWithin rfl rfl rfl (by decide +kernel) ⟨Nat.le_of_ble_eq_true rfl, Nat.le_of_ble_eq_true rfl⟩) zs0 hK trivial rfl hl.1 rfl (Nat.le_of_ble_eq_true rfl) dX7_costumeFor_4 ⟨Nat.le_of_ble_eq_true rfl, Nat.le_of_ble_eq_true rfl⟩ (fun r_4 hr_4 => ?_)
  rcases hr_4 with ⟨hb_4, rfl⟩ | ⟨hb_4, rfl⟩
  · refine zr_if_eq (pc := 7) (tgt := 24) hx hb dX7_costumeFor_7 (by decide) (by decide) (fun z => absurd z (by decide)) (fun _ => ?_)
    refine lv_aload_n (pc := 10) hx hb dX7_costumeFor_10 rfl (lv_at hl 0 rfl) ?_
    refine zr_get (pc := 11) S hK hY.1 rfl i_X7 0 (by decide) (List.mem_of_getElem? (i := 1) rfl) rfl dX7_costumeFor_11 ?_
    refine zr_get (pc := 14) S hK (hP 0 (by decide)) rfl i_X4 1 (by decide) (List.mem_of_getElem? (i := 2) rfl) rfl dX7_costumeFor_14 ?_
    refine lv_iload_n (pc := 17) hx hb dX7_costumeFor_17 rfl (lv_at hl 2 rfl) ?_
    refine zr_vi (pc := 18) (As := [.int (zI (a))]) (rest := []) S (ct_X0_has l D cI cT ad σ g hR hI a (by omega)) (cwV 1 hts gX7_costumeFor_X0_has rfl rfl rfl (by decide +kernel) ⟨Nat.le_of_ble_eq_true rfl, Nat.le_of_ble_eq_true rfl⟩) zs0 hK hP (zr_recv hK (hP 2 (by decide)) rfl) rfl hl.1 rfl (Nat.le_of_ble_eq_true rfl) dX7_costumeFor_18 ⟨Nat.le_of_ble_eq_true rfl, Nat.le_of_ble_eq_true rfl⟩ (fun r_18 hr_18 => ?_)
    rcases hr_18 with ⟨hb_18, rfl⟩ | ⟨hb_18, rfl⟩
    · refine zr_if_ne (pc := 21) (tgt := 28) hx hb dX7_costumeFor_21 (by decide) (by decide) (fun _ => ?_) (fun z => absurd z (by decide))
      refine lv_aload_n (pc := 28) hx hb dX7_costumeFor_28 rfl (lv_at hl 0 rfl) ?_
      refine zr_get (pc := 29) S hK hY.1 rfl i_X7 0 (by decide) (List.mem_of_getElem? (i := 1) rfl) rfl dX7_costumeFor_29 ?_
      refine lv_iload_n (pc := 32) hx hb dX7_costumeFor_32 rfl (lv_at hl 1 rfl) ?_
      refine lv_iload_n (pc := 33) hx hb dX7_costumeFor_33 rfl (lv_at hl 2 rfl) ?_
      refine zr_vi (pc := 34) (As := [.int (zI (sc)), .int (zI (a))]) (rest := []) S (ct_X4_bestCostume l D cI cT ad σ g hR hI sc a (by omega) (by omega) (by omega) (by omega)) (cwV 2 hts gX7_costumeFor_X4_bestCostume rfl rfl rfl (by decide +kernel) ⟨Nat.le_of_ble_eq_true rfl, Nat.le_of_ble_eq_true rfl⟩) zs0 hK hP (zr_recv hK (hP 0 (by decide)) rfl) rfl hl.1 rfl (Nat.le_of_ble_eq_true rfl) dX7_costumeFor_34 ⟨Nat.le_of_ble_eq_true rfl, Nat.le_of_ble_eq_true rfl⟩ (fun r_34 hr_34 => ?_)
      subst hr_34
      exact W.iret (v := zI (bst g sc a (g 0).toNat)) hx hb hr (fun tz ht hW => ⟨_, rfl, congrArg zI (Eq.symm (tft (by omega))), ht⟩) (fun _ h => by cases h) dX7_costumeFor_37
    · refine zr_if_ne (pc := 21) (tgt := 28) hx hb dX7_costumeFor_21 (by decide) (by decide) (fun z => absurd z (by decide)) (fun _ => ?_)
      refine lv_sipush (pc := 24) (v := zI (-2001)) hx hb dX7_costumeFor_24 zc_sipush_m2001 ?_
      exact W.iret (v := zI ((-2001))) hx hb hr (fun tz ht hW => ⟨_, rfl, congrArg zI (Eq.symm (tff (fun q => by omega))), ht⟩) (fun _ h => by cases h) dX7_costumeFor_27
  · refine zr_if_eq (pc := 7) (tgt := 24) hx hb dX7_costumeFor_7 (by decide) (by decide) (fun _ => ?_) (fun z => absurd z (by decide))
    refine lv_sipush (pc := 24) (v := zI (-2001)) hx hb dX7_costumeFor_24 zc_sipush_m2001 ?_
    exact W.iret (v := zI ((-2001))) hx hb hr (fun tz ht hW => ⟨_, rfl, congrArg zI (Eq.symm (tff (fun q => by omega))), ht⟩) (fun _ h => by cases h) dX7_costumeFor_27
set_option maxHeartbeats 4000000 in
set_option maxRecDepth 100000 in
theorem ct_X7_freeFrom (l : Launch) (D : va_G) (cI cT : ClassId) (ad : Nat → Nat) (σ : Nat → Int → Int) (g : Int → Int) (hR : Rel σ g) (hI : Inv g) (tl : Int) (tx rd rp : Int → Int) (c : Int) (n : Int) (r_c : -2147483648 ≤ c ∧ c ≤ 2147483647) (r_n : -2147483648 ≤ n ∧ n ≤ 2147483647) : zMr l yX7_freeFrom wsX7_freeFrom ({ frames := 4, cells := 0, slots := 0, locals := 92 }) D cI cT [.ref (ad 120), .int (zI (c)), .int (zI (n))] (fun _ H => zW D ad 20 (sC cI ad σ) H ∧ cY D cI ad tl tx rd rp H) (fun r => r = zI (qFre g c n)) := by
  refine Met.ofW (cc := cX7_freeFrom) (maxL := 3) (ret := (some .int)) (by decide) rfl ?_
  intro p_ e_ s m_ args below meth c_ s₁ B hml hv
  obtain ⟨rfl, hK, hF⟩ := hv
  have hx := B.exec
  have hb := B.bytes
  have hr := B.returns
  have hts := atoms_spec (ws := wsX7_freeFrom) B.pre
  have hown : s.vm.findClass RX7 = some m_.cls := findClass_of_methodNamed B.named
  have hlocks := B.notSynchronized
  have S : CallFix p_ m_ c_ cX7_freeFrom 3 s _ wsX7_freeFrom RX7 := ⟨hx, hb, hml, hown, hts⟩
  have i_X7 : ∀ w ∈ u_ws RX7 TX7 4, w ∈ wsX7_freeFrom := fun _ h => List.mem_cons_of_mem _ (List.mem_append_left _ (List.mem_append_left _ (List.mem_append_left _ (List.mem_append_right _ h))))
  have i_X4 : ∀ w ∈ u_ws RX4 TX4 9, w ∈ wsX7_freeFrom := fun _ h => List.mem_cons_of_mem _ (List.mem_append_left _ (List.mem_append_left _ (List.mem_append_right _ h)))
  obtain ⟨hP, hY⟩ := hF
  have hnC := iv_nC hI
  have hto := iv_to hI
  have hl := lv_entry ([.ref (ad 120), .int (zI (c)), .int (zI (n))]) (n := 3) (Nat.le_of_ble_eq_true rfl)
  rw [lg_entry_eq]
  generalize (lg_sl ([.ref (ad 120), .int (zI (c)), .int (zI (n))]) ++ List.replicate (3 - (lg_sl ([.ref (ad 120), .int (zI (c)), .int (zI (n))])).length) Slot.unset).toArray = ls at hl ⊢
  have hl : lv_has ls 3 [(0, .ref (ad 120)), (1, .int (zI (c))), (2, .int (zI (n)))] := hl
  refine lv_aload_n (pc := 0) hx hb dX7_freeFrom_0 rfl (lv_at hl 0 rfl) ?_
  refine zr_get (pc := 1) S hK hY.1 rfl i_X7 0 (by decide) (List.mem_of_getElem? (i := 1) rfl) rfl dX7_freeFrom_1 ?_
  refine zr_get (pc := 4) S hK (hP 0 (by decide)) rfl i_X4 0 (by decide) (List.mem_of_getElem? (i := 2) rfl) rfl dX7_freeFrom_4 ?_
  refine lv_iload_n (pc := 7) hx hb dX7_freeFrom_7 rfl (lv_at hl 1 rfl) ?_
  refine zr_vi (pc := 8) (As := [.int (zI (c))]) (rest := []) S (ct_X6_has l D cI cT ad σ g hR hI c (by omega)) (cwV 1 hts gX7_freeFrom_X6_has rfl rfl rfl (by decide +kernel) ⟨Nat.le_of_ble_eq_true rfl, Nat.le_of_ble_eq_true rfl⟩) zs0 hK hP (zr_recv hK (hP 1 (by decide)) rfl) rfl hl.1 rfl (Nat.le_of_ble_eq_true rfl) dX7_freeFrom_8 ⟨Nat.le_of_ble_eq_true rfl, Nat.le_of_ble_eq_true rfl⟩ (fun r_8 hr_8 => ?_)
  rcases hr_8 with ⟨hb_8, rfl⟩ | ⟨hb_8, rfl⟩
  · refine zr_if_eq (pc := 11) (tgt := 24) hx hb dX7_freeFrom_11 (by decide) (by decide) (fun z => absurd z (by decide)) (fun _ => ?_)
    refine lv_iload_n (pc := 14) hx hb dX7_freeFrom_14 rfl (lv_at hl 2 rfl) ?_
    refine lv_iconst (pc := 15) (v := zI 1) hx hb dX7_freeFrom_15 rfl ?_
    refine lv_bipush (pc := 16) (v := zI 60) hx hb dX7_freeFrom_16 zc_bipush_60 ?_
    refine zr_si (pc := 18) (As := [.int (zI (n)), .int (zI (1)), .int (zI (60))]) (rest := []) S (ct_X7_isWithin l D cI cT n 1 60 (by omega) (by decide) (by decide)) (va_cwS 3 hts gX7_freeFrom_X7_isWithin rfl rfl rfl (by decide +kernel) ⟨Nat.le_of_ble_eq_true rfl, Nat.le_of_ble_eq_true rfl⟩) zs0 hK trivial rfl hl.1 rfl (Nat.le_of_ble_eq_true rfl) dX7_freeFrom_18 ⟨Nat.le_of_ble_eq_true rfl, Nat.le_of_ble_eq_true rfl⟩ (fun r_18 hr_18 => ?_)
    rcases hr_18 with ⟨hb_18, rfl⟩ | ⟨hb_18, rfl⟩
    · refine zr_if_ne (pc := 21) (tgt := 28) hx hb dX7_freeFrom_21 (by decide) (by decide) (fun _ => ?_) (fun z => absurd z (by decide))
      refine lv_aload_n (pc := 28) hx hb dX7_freeFrom_28 rfl (lv_at hl 0 rfl) ?_
      refine zr_get (pc := 29) S hK hY.1 rfl i_X7 0 (by decide) (List.mem_of_getElem? (i := 1) rfl) rfl dX7_freeFrom_29 ?_
      refine zr_get (pc := 32) S hK (hP 0 (by decide)) rfl i_X4 2 (by decide) (List.mem_of_getElem? (i := 3) rfl) rfl dX7_freeFrom_32 ?_
      refine lv_iload_n (pc := 35) hx hb dX7_freeFrom_35 rfl (lv_at hl 1 rfl) ?_
      refine lv_aload_n (pc := 36) hx hb dX7_freeFrom_36 rfl (lv_at hl 0 rfl) ?_
      refine zr_get (pc := 37) S hK hY.1 rfl i_X7 0 (by decide) (List.mem_of_getElem? (i := 1) rfl) rfl dX7_freeFrom_37 ?_
      refine zr_get (pc := 40) S hK (hP 0 (by decide)) rfl i_X4 4 (by decide) (List.mem_of_getElem? (i := 4) rfl) rfl dX7_freeFrom_40 ?_
      refine zr_top (b := g 3) (rl_to hR) ?_
      refine lv_iload_n (pc := 43) hx hb dX7_freeFrom_43 rfl (lv_at hl 2 rfl) ?_
      refine zr_vi (pc := 44) (As := [.int (zI (c)), .int (zI (g 3)), .int (zI (n))]) (rest := []) S (ct_X1_firstFree l D cI cT ad σ g hR hI c n (by omega) (by omega) (by omega) (by omega)) (cwV 3 hts gX7_freeFrom_X1_firstFree rfl rfl rfl (by decide +kernel) ⟨Nat.le_of_ble_eq_true rfl, Nat.le_of_ble_eq_true rfl⟩) zs0 hK hP (zr_recv hK (hP 3 (by decide)) rfl) rfl hl.1 rfl (Nat.le_of_ble_eq_true rfl) dX7_freeFrom_44 ⟨Nat.le_of_ble_eq_true rfl, Nat.le_of_ble_eq_true rfl⟩ (fun r_44 hr_44 => ?_)
      subst hr_44
      exact W.iret (v := zI (ffd g c n)) hx hb hr (fun tz ht hW => ⟨_, rfl, congrArg zI (Eq.symm (tft (by omega))), ht⟩) (fun _ h => by cases h) dX7_freeFrom_47
    · refine zr_if_ne (pc := 21) (tgt := 28) hx hb dX7_freeFrom_21 (by decide) (by decide) (fun z => absurd z (by decide)) (fun _ => ?_)
      refine lv_sipush (pc := 24) (v := zI (-2001)) hx hb dX7_freeFrom_24 zc_sipush_m2001 ?_
      exact W.iret (v := zI ((-2001))) hx hb hr (fun tz ht hW => ⟨_, rfl, congrArg zI (Eq.symm (tff (fun q => by omega))), ht⟩) (fun _ h => by cases h) dX7_freeFrom_27
  · refine zr_if_eq (pc := 11) (tgt := 24) hx hb dX7_freeFrom_11 (by decide) (by decide) (fun _ => ?_) (fun z => absurd z (by decide))
    refine lv_sipush (pc := 24) (v := zI (-2001)) hx hb dX7_freeFrom_24 zc_sipush_m2001 ?_
    exact W.iret (v := zI ((-2001))) hx hb hr (fun tz ht hW => ⟨_, rfl, congrArg zI (Eq.symm (tff (fun q => by omega))), ht⟩) (fun _ h => by cases h) dX7_freeFrom_27
set_option maxHeartbeats 4000000 in
set_option maxRecDepth 100000 in
theorem ct_X7_hired (l : Launch) (D : va_G) (cI cT : ClassId) (ad : Nat → Nat) (σ : Nat → Int → Int) (g : Int → Int) (hR : Rel σ g) (hI : Inv g) (tl : Int) (tx rd rp : Int → Int) (h : Int) (k : Int) (r_h : -2147483648 ≤ h ∧ h ≤ 2147483647) (r_k : -2147483648 ≤ k ∧ k ≤ 2147483647) : zMr l yX7_hired wsX7_hired ({ frames := 1, cells := 0, slots := 0, locals := 21 }) D cI cT [.ref (ad 120), .int (zI (h)), .int (zI (k))] (fun _ H => zW D ad 20 (sC cI ad σ) H ∧ cY D cI ad tl tx rd rp H) (fun r => r = zI (qHir g h k)) := by
  refine Met.ofW (cc := cX7_hired) (maxL := 3) (ret := (some .int)) (by decide) rfl ?_
  intro p_ e_ s m_ args below meth c_ s₁ B hml hv
  obtain ⟨rfl, hK, hF⟩ := hv
  have hx := B.exec
  have hb := B.bytes
  have hr := B.returns
  have hts := atoms_spec (ws := wsX7_hired) B.pre
  have hown : s.vm.findClass RX7 = some m_.cls := findClass_of_methodNamed B.named
  have hlocks := B.notSynchronized
  have S : CallFix p_ m_ c_ cX7_hired 3 s _ wsX7_hired RX7 := ⟨hx, hb, hml, hown, hts⟩
  have i_X7 : ∀ w ∈ u_ws RX7 TX7 4, w ∈ wsX7_hired := fun _ h => List.mem_cons_of_mem _ (List.mem_append_left _ (List.mem_append_left _ (List.mem_append_right _ h)))
  have i_X4 : ∀ w ∈ u_ws RX4 TX4 9, w ∈ wsX7_hired := fun _ h => List.mem_cons_of_mem _ (List.mem_append_left _ (List.mem_append_right _ h))
  have i_X1 : ∀ w ∈ u_ws RX1 TX1 6, w ∈ wsX7_hired := fun _ h => List.mem_cons_of_mem _ (List.mem_append_right _ h)
  obtain ⟨hP, hY⟩ := hF
  have hnH := iv_nH hI
  have hl := lv_entry ([.ref (ad 120), .int (zI (h)), .int (zI (k))]) (n := 3) (Nat.le_of_ble_eq_true rfl)
  rw [lg_entry_eq]
  generalize (lg_sl ([.ref (ad 120), .int (zI (h)), .int (zI (k))]) ++ List.replicate (3 - (lg_sl ([.ref (ad 120), .int (zI (h)), .int (zI (k))])).length) Slot.unset).toArray = ls at hl ⊢
  have hl : lv_has ls 3 [(0, .ref (ad 120)), (1, .int (zI (h))), (2, .int (zI (k)))] := hl
  refine lv_aload_n (pc := 0) hx hb dX7_hired_0 rfl (lv_at hl 0 rfl) ?_
  refine zr_get (pc := 1) S hK hY.1 rfl i_X7 0 (by decide) (List.mem_of_getElem? (i := 1) rfl) rfl dX7_hired_1 ?_
  refine zr_get (pc := 4) S hK (hP 0 (by decide)) rfl i_X4 2 (by decide) (List.mem_of_getElem? (i := 2) rfl) rfl dX7_hired_4 ?_
  refine lv_iload_n (pc := 7) hx hb dX7_hired_7 rfl (lv_at hl 1 rfl) ?_
  refine zr_vi (pc := 8) (As := [.int (zI (h))]) (rest := []) S (ct_X1_has l D cI cT ad σ g hR hI h (by omega)) (cwV 1 hts gX7_hired_X1_has rfl rfl rfl (by decide +kernel) ⟨Nat.le_of_ble_eq_true rfl, Nat.le_of_ble_eq_true rfl⟩) zs0 hK hP (zr_recv hK (hP 3 (by decide)) rfl) rfl hl.1 rfl (Nat.le_of_ble_eq_true rfl) dX7_hired_8 ⟨Nat.le_of_ble_eq_true rfl, Nat.le_of_ble_eq_true rfl⟩ (fun r_8 hr_8 => ?_)
  rcases hr_8 with ⟨hb_8, rfl⟩ | ⟨hb_8, rfl⟩
  · refine zr_if_ne (pc := 11) (tgt := 18) hx hb dX7_hired_11 (by decide) (by decide) (fun _ => ?_) (fun z => absurd z (by decide))
    refine lv_iload_n (pc := 18) hx hb dX7_hired_18 rfl (lv_at hl 2 rfl) ?_
    have rg_19 : -2147483648 ≤ k ∧ k ≤ 2147483647 := (by omega)
    by_cases c_19 : k = 0
    · refine lv_tableIn (tgt := 48) (off := 29) hx hb dX7_hired_19 (by rw [zi_toInt rg_19, c_19]; decide) (by rw [zi_toInt rg_19, c_19]; decide) (by rw [zi_toInt rg_19, c_19]; rfl) (by decide) ?_
      refine lv_aload_n (pc := 48) hx hb dX7_hired_48 rfl (lv_at hl 0 rfl) ?_
      refine zr_get (pc := 49) S hK hY.1 rfl i_X7 0 (by decide) (List.mem_of_getElem? (i := 1) rfl) rfl dX7_hired_49 ?_
      refine zr_get (pc := 52) S hK (hP 0 (by decide)) rfl i_X4 2 (by decide) (List.mem_of_getElem? (i := 2) rfl) rfl dX7_hired_52 ?_
      refine zr_get (pc := 55) S hK (hP 3 (by decide)) rfl i_X1 1 (by decide) (List.mem_of_getElem? (i := 3) rfl) rfl dX7_hired_55 ?_
      refine lv_iload_n (pc := 58) hx hb dX7_hired_58 rfl (lv_at hl 1 rfl) ?_
      refine zr_si (pc := 59) (As := [.ref (ad 15), .int (zI (h))]) (rest := []) S (ct_X7_at l D cI cT (ad 15) 24 _ h (gH g h 0) (by decide) (by omega) (by omega) (rl_h0 hR (by omega) (by omega)) (by omega)) (va_cwS 2 hts gX7_hired_X7_at rfl rfl rfl (by decide +kernel) ⟨Nat.le_of_ble_eq_true rfl, Nat.le_of_ble_eq_true rfl⟩) zs_ar hK (zAr_of (zK_int hK) (hP 15 (by decide))) rfl hl.1 rfl (Nat.le_of_ble_eq_true rfl) dX7_hired_59 ⟨Nat.le_of_ble_eq_true rfl, Nat.le_of_ble_eq_true rfl⟩ (fun r_59 hr_59 => ?_)
      subst hr_59
      exact W.iret (v := zI (gH g h 0)) hx hb hr (fun tz ht hW => ⟨_, rfl, congrArg zI (Eq.symm ((tft (by omega)).trans (by rw [c_19]))), ht⟩) (fun _ h => by cases h) dX7_hired_62
    have n0_19 := c_19
    by_cases c_19 : k = 1
    · refine lv_tableIn (tgt := 63) (off := 44) hx hb dX7_hired_19 (by rw [zi_toInt rg_19, c_19]; decide) (by rw [zi_toInt rg_19, c_19]; decide) (by rw [zi_toInt rg_19, c_19]; rfl) (by decide) ?_
      refine lv_aload_n (pc := 63) hx hb dX7_hired_63 rfl (lv_at hl 0 rfl) ?_
      refine zr_get (pc := 64) S hK hY.1 rfl i_X7 0 (by decide) (List.mem_of_getElem? (i := 1) rfl) rfl dX7_hired_64 ?_
      refine zr_get (pc := 67) S hK (hP 0 (by decide)) rfl i_X4 2 (by decide) (List.mem_of_getElem? (i := 2) rfl) rfl dX7_hired_67 ?_
      refine zr_get (pc := 70) S hK (hP 3 (by decide)) rfl i_X1 2 (by decide) (List.mem_of_getElem? (i := 4) rfl) rfl dX7_hired_70 ?_
      refine lv_iload_n (pc := 73) hx hb dX7_hired_73 rfl (lv_at hl 1 rfl) ?_
      refine zr_si (pc := 74) (As := [.ref (ad 16), .int (zI (h))]) (rest := []) S (ct_X7_at l D cI cT (ad 16) 24 _ h (gH g h 1) (by decide) (by omega) (by omega) (rl_h1 hR (by omega) (by omega)) (by omega)) (va_cwS 2 hts gX7_hired_X7_at rfl rfl rfl (by decide +kernel) ⟨Nat.le_of_ble_eq_true rfl, Nat.le_of_ble_eq_true rfl⟩) zs_ar hK (zAr_of (zK_int hK) (hP 16 (by decide))) rfl hl.1 rfl (Nat.le_of_ble_eq_true rfl) dX7_hired_74 ⟨Nat.le_of_ble_eq_true rfl, Nat.le_of_ble_eq_true rfl⟩ (fun r_74 hr_74 => ?_)
      subst hr_74
      exact W.iret (v := zI (gH g h 1)) hx hb hr (fun tz ht hW => ⟨_, rfl, congrArg zI (Eq.symm ((tft (by omega)).trans (by rw [c_19]))), ht⟩) (fun _ h => by cases h) dX7_hired_77
    have n1_19 := c_19
    by_cases c_19 : k = 2
    · refine lv_tableIn (tgt := 78) (off := 59) hx hb dX7_hired_19 (by rw [zi_toInt rg_19, c_19]; decide) (by rw [zi_toInt rg_19, c_19]; decide) (by rw [zi_toInt rg_19, c_19]; rfl) (by decide) ?_
      refine lv_aload_n (pc := 78) hx hb dX7_hired_78 rfl (lv_at hl 0 rfl) ?_
      refine zr_get (pc := 79) S hK hY.1 rfl i_X7 0 (by decide) (List.mem_of_getElem? (i := 1) rfl) rfl dX7_hired_79 ?_
      refine zr_get (pc := 82) S hK (hP 0 (by decide)) rfl i_X4 2 (by decide) (List.mem_of_getElem? (i := 2) rfl) rfl dX7_hired_82 ?_
      refine zr_get (pc := 85) S hK (hP 3 (by decide)) rfl i_X1 3 (by decide) (List.mem_of_getElem? (i := 5) rfl) rfl dX7_hired_85 ?_
      refine lv_iload_n (pc := 88) hx hb dX7_hired_88 rfl (lv_at hl 1 rfl) ?_
      refine zr_si (pc := 89) (As := [.ref (ad 17), .int (zI (h))]) (rest := []) S (ct_X7_at l D cI cT (ad 17) 24 _ h (gH g h 2) (by decide) (by omega) (by omega) (rl_h2 hR (by omega) (by omega)) (by omega)) (va_cwS 2 hts gX7_hired_X7_at rfl rfl rfl (by decide +kernel) ⟨Nat.le_of_ble_eq_true rfl, Nat.le_of_ble_eq_true rfl⟩) zs_ar hK (zAr_of (zK_int hK) (hP 17 (by decide))) rfl hl.1 rfl (Nat.le_of_ble_eq_true rfl) dX7_hired_89 ⟨Nat.le_of_ble_eq_true rfl, Nat.le_of_ble_eq_true rfl⟩ (fun r_89 hr_89 => ?_)
      subst hr_89
      exact W.iret (v := zI (gH g h 2)) hx hb hr (fun tz ht hW => ⟨_, rfl, congrArg zI (Eq.symm ((tft (by omega)).trans (by rw [c_19]))), ht⟩) (fun _ h => by cases h) dX7_hired_92
    have n2_19 := c_19
    by_cases c_19 : k = 3
    · refine lv_tableIn (tgt := 93) (off := 74) hx hb dX7_hired_19 (by rw [zi_toInt rg_19, c_19]; decide) (by rw [zi_toInt rg_19, c_19]; decide) (by rw [zi_toInt rg_19, c_19]; rfl) (by decide) ?_
      refine lv_aload_n (pc := 93) hx hb dX7_hired_93 rfl (lv_at hl 0 rfl) ?_
      refine zr_get (pc := 94) S hK hY.1 rfl i_X7 0 (by decide) (List.mem_of_getElem? (i := 1) rfl) rfl dX7_hired_94 ?_
      refine zr_get (pc := 97) S hK (hP 0 (by decide)) rfl i_X4 2 (by decide) (List.mem_of_getElem? (i := 2) rfl) rfl dX7_hired_97 ?_
      refine zr_get (pc := 100) S hK (hP 3 (by decide)) rfl i_X1 5 (by decide) (List.mem_of_getElem? (i := 6) rfl) rfl dX7_hired_100 ?_
      refine lv_iload_n (pc := 103) hx hb dX7_hired_103 rfl (lv_at hl 1 rfl) ?_
      refine zr_si (pc := 104) (As := [.ref (ad 19), .int (zI (h))]) (rest := []) S (ct_X7_at l D cI cT (ad 19) 24 _ h (gH g h 3) (by decide) (by omega) (by omega) (rl_h3 hR (by omega) (by omega)) (by omega)) (va_cwS 2 hts gX7_hired_X7_at rfl rfl rfl (by decide +kernel) ⟨Nat.le_of_ble_eq_true rfl, Nat.le_of_ble_eq_true rfl⟩) zs_ar hK (zAr_of (zK_int hK) (hP 19 (by decide))) rfl hl.1 rfl (Nat.le_of_ble_eq_true rfl) dX7_hired_104 ⟨Nat.le_of_ble_eq_true rfl, Nat.le_of_ble_eq_true rfl⟩ (fun r_104 hr_104 => ?_)
      subst hr_104
      exact W.iret (v := zI (gH g h 3)) hx hb hr (fun tz ht hW => ⟨_, rfl, congrArg zI (Eq.symm ((tft (by omega)).trans (by rw [c_19]))), ht⟩) (fun _ h => by cases h) dX7_hired_107
    have n3_19 := c_19
    refine lv_tableOut (pc := 19) (tgt := 108) hx hb dX7_hired_19 (by rw [zi_toInt rg_19]; omega) (by decide) ?_
    refine lv_sipush (pc := 108) (v := zI (-2001)) hx hb dX7_hired_108 zc_sipush_m2001 ?_
    exact W.iret (v := zI ((-2001))) hx hb hr (fun tz ht hW => ⟨_, rfl, congrArg zI (Eq.symm (tff (fun q => by omega))), ht⟩) (fun _ h => by cases h) dX7_hired_111
  · refine zr_if_ne (pc := 11) (tgt := 18) hx hb dX7_hired_11 (by decide) (by decide) (fun z => absurd z (by decide)) (fun _ => ?_)
    refine lv_sipush (pc := 14) (v := zI (-2001)) hx hb dX7_hired_14 zc_sipush_m2001 ?_
    exact W.iret (v := zI ((-2001))) hx hb hr (fun tz ht hW => ⟨_, rfl, congrArg zI (Eq.symm (tff (fun q => by omega))), ht⟩) (fun _ h => by cases h) dX7_hired_17
