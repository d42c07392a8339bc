set_option maxHeartbeats 4000000 in
set_option maxRecDepth 100000 in
theorem ct_X8_wantedOf (l : Launch) (D : va_G) (cI cT : ClassId) (am : Nat → Nat) (μ : Nat → Int → Int) (g : Int → Int) (hg : μ 1 = g) (hI : Inv g) (c : Int) (a : Int) (m : Int) (h0 : 0 ≤ c) (h1 : c < g 0) (a0 : 0 ≤ a) (a1 : a < g 1) (m0 : 0 ≤ m) (m1 : m < 3) : zMr l yX8_wantedOf wsX8_wantedOf ({ frames := 2, cells := 0, slots := 0, locals := 46 }) D cI cT [.ref (am 0), .int (zI (c)), .int (zI (a)), .int (zI (m))] (fun _ H => zW D am 5 (mC cI am μ) H) (fun r => r = zI (pres g c m + lack g c a m)) := by
  refine Met.ofW (cc := cX8_wantedOf) (maxL := 7) (ret := (some .int)) (by decide) rfl ?_
  intro p_ e_ s m_ args below meth c_ s₁ B hml hv
  obtain ⟨rfl, hK, hF⟩ := hv
  have hx := B.exec
  have hb := B.bytes
  have hr := B.returns
  have hts := atoms_spec (ws := wsX8_wantedOf) B.pre
  have hown : s.vm.findClass RX8 = some m_.cls := findClass_of_methodNamed B.named
  have hlocks := B.notSynchronized
  have S : CallFix p_ m_ c_ cX8_wantedOf 7 s _ wsX8_wantedOf RX8 := ⟨hx, hb, hml, hown, hts⟩
  have i_X8 : ∀ w ∈ u_ws RX8 TX8 12, w ∈ wsX8_wantedOf := fun _ h => List.mem_cons_of_mem _ (List.mem_append_right _ h)
  have hP := hF
  have hnC := iv_nC hI
  have hnA := iv_nA hI
  have hme := iv_me hI a0 a1 m0 m1
  have hes : 0 ≤ g (8 + m) ∧ g (8 + m) ≤ 20 := iv_es hI m0 m1
  have hl := lv_entry ([.ref (am 0), .int (zI (c)), .int (zI (a)), .int (zI (m))]) (n := 7) (Nat.le_of_ble_eq_true rfl)
  rw [lg_entry_eq]
  generalize (lg_sl ([.ref (am 0), .int (zI (c)), .int (zI (a)), .int (zI (m))]) ++ List.replicate (7 - (lg_sl ([.ref (am 0), .int (zI (c)), .int (zI (a)), .int (zI (m))])).length) Slot.unset).toArray = ls at hl ⊢
  have hl : lv_has ls 7 [(0, .ref (am 0)), (1, .int (zI (c))), (2, .int (zI (a))), (3, .int (zI (m)))] := hl
  refine lv_aload_n (pc := 0) hx hb dX8_wantedOf_0 rfl (lv_at hl 0 rfl) ?_
  refine lv_iload_n (pc := 1) hx hb dX8_wantedOf_1 rfl (lv_at hl 1 rfl) ?_
  refine lv_iload_n (pc := 2) hx hb dX8_wantedOf_2 rfl (lv_at hl 3 rfl) ?_
  refine zr_vi (pc := 3) (As := [.int (zI (c)), .int (zI (m))]) (rest := []) S (ct_X8_present l D cI cT am μ g hg hI c m (by omega) (by omega) (by omega) (by omega)) (cwV 2 hts gX8_wantedOf_X8_present rfl rfl rfl (by decide +kernel) ⟨Nat.le_of_ble_eq_true rfl, Nat.le_of_ble_eq_true rfl⟩) zs0 hK hP (zr_recv hK (hP 0 (by decide)) rfl) rfl hl.1 rfl (Nat.le_of_ble_eq_true rfl) dX8_wantedOf_3 ⟨Nat.le_of_ble_eq_true rfl, Nat.le_of_ble_eq_true rfl⟩ (fun r_3 hr_3 => ?_)
  subst hr_3
  have hp_3 := pres_bd hI (c := c) (m := m) (by omega) (by omega) (by omega) (by omega)
  refine lv_istore (pc := 6) (lv' := [(4, .int (zI (pres g c m))), (0, .ref (am 0)), (1, .int (zI (c))), (2, .int (zI (a))), (3, .int (zI (m)))]) hx hb dX8_wantedOf_6 hl (by decide) rfl (fun ls hl => ?_)
  refine lv_aload_n (pc := 8) hx hb dX8_wantedOf_8 rfl (lv_at hl 1 rfl) ?_
  refine lv_iload_n (pc := 9) hx hb dX8_wantedOf_9 rfl (lv_at hl 3 rfl) ?_
  refine lv_iload_n (pc := 10) hx hb dX8_wantedOf_10 rfl (lv_at hl 4 rfl) ?_
  refine zr_vi (pc := 11) (As := [.int (zI (a)), .int (zI (m))]) (rest := []) S (ct_X8_measureOf l D cI cT am μ g hg hI a m (by omega) (by omega) (by omega) (by omega)) (cwV 2 hts gX8_wantedOf_X8_measureOf rfl rfl rfl (by decide +kernel) ⟨Nat.le_of_ble_eq_true rfl, Nat.le_of_ble_eq_true rfl⟩) zs0 hK hP (zr_recv hK (hP 0 (by decide)) rfl) rfl hl.1 rfl (Nat.le_of_ble_eq_true rfl) dX8_wantedOf_11 ⟨Nat.le_of_ble_eq_true rfl, Nat.le_of_ble_eq_true rfl⟩ (fun r_11 hr_11 => ?_)
  subst hr_11
  refine lv_istore (pc := 14) (lv' := [(5, .int (zI (gA g a m))), (4, .int (zI (pres g c m))), (0, .ref (am 0)), (1, .int (zI (c))), (2, .int (zI (a))), (3, .int (zI (m)))]) hx hb dX8_wantedOf_14 hl (by decide) rfl (fun ls hl => ?_)
  refine lv_iload (pc := 16) hx hb dX8_wantedOf_16 (lv_at hl 0 rfl) ?_
  refine lv_aload_n (pc := 18) hx hb dX8_wantedOf_18 rfl (lv_at hl 2 rfl) ?_
  refine zr_get (pc := 19) S hK (hP 0 (by decide)) rfl i_X8 1 (by decide) (List.mem_of_getElem? (i := 1) rfl) rfl dX8_wantedOf_19 ?_
  refine lv_bipush (pc := 22) (v := zI 8) hx hb dX8_wantedOf_22 zc_bipush_8 ?_
  refine lv_iload_n (pc := 24) hx hb dX8_wantedOf_24 rfl (lv_at hl 5 rfl) ?_
  refine zr_iadd (pc := 25) (d := 8 + m) hx hb dX8_wantedOf_25 rfl ?_
  refine zr_ald (pc := 26) (n := 572) hx hb (zAr_of (zK_int hK) (hP 1 (by decide))) (by omega) (by omega) (by decide) dX8_wantedOf_26 ?_
  refine zr_top (b := g (8 + m)) (congrFun hg _) ?_
  refine zr_iadd (pc := 27) (d := (gA g a m) + (g (8 + m))) hx hb dX8_wantedOf_27 rfl ?_
  refine lv_istore (pc := 28) (lv' := [(6, .int (zI ((gA g a m) + (g (8 + m))))), (5, .int (zI (gA g a m))), (4, .int (zI (pres g c m))), (0, .ref (am 0)), (1, .int (zI (c))), (2, .int (zI (a))), (3, .int (zI (m)))]) hx hb dX8_wantedOf_28 hl (by decide) rfl (fun ls hl => ?_)
  refine lv_iload (pc := 30) hx hb dX8_wantedOf_30 (lv_at hl 2 rfl) ?_
  refine lv_iload (pc := 32) hx hb dX8_wantedOf_32 (lv_at hl 1 rfl) ?_
  refine zr_icmp_ge (pc := 34) (tgt := 42) hx hb dX8_wantedOf_34 (by decide) (by omega) (by omega) (fun c_34 => ?_) (fun c_34 => ?_)
  · refine lv_iload (pc := 42) hx hb dX8_wantedOf_42 (lv_at hl 2 rfl) ?_
    refine lv_iload (pc := 44) hx hb dX8_wantedOf_44 (lv_at hl 0 rfl) ?_
    refine zr_icmp_le (pc := 46) (tgt := 54) hx hb dX8_wantedOf_46 (by decide) (by omega) (by omega) (fun c_46 => ?_) (fun c_46 => ?_)
    · refine lv_iload (pc := 54) hx hb dX8_wantedOf_54 (lv_at hl 2 rfl) ?_
      exact W.iret (v := zI (pres g c m)) hx hb hr (fun tz ht hW => ⟨_, rfl, congrArg zI (by show _ = _ + lk _ _ _; first | (rw [lk_lo c_34]; omega) | (rw [lk_hi c_34 (by show _ + g (8 + m) < _; omega)]; show _ = _ + (_ + g (8 + m) - _); omega) | (rw [lk_in c_34 (by show _ ≤ _ + g (8 + m); omega)]; omega)), ht⟩) (fun _ h => by cases h) dX8_wantedOf_56
    · refine lv_iload (pc := 49) hx hb dX8_wantedOf_49 (lv_at hl 0 rfl) ?_
      refine lv_goto (pc := 51) (tgt := 56) hx hb dX8_wantedOf_51 (by decide) ?_
      exact W.iret (v := zI ((gA g a m) + (g (8 + m)))) hx hb hr (fun tz ht hW => ⟨_, rfl, congrArg zI (by show _ = _ + lk _ _ _; first | (rw [lk_lo c_34]; omega) | (rw [lk_hi c_34 (by show _ + g (8 + m) < _; omega)]; show _ = _ + (_ + g (8 + m) - _); omega) | (rw [lk_in c_34 (by show _ ≤ _ + g (8 + m); omega)]; omega)), ht⟩) (fun _ h => by cases h) dX8_wantedOf_56
  · refine lv_iload (pc := 37) hx hb dX8_wantedOf_37 (lv_at hl 1 rfl) ?_
    refine lv_goto (pc := 39) (tgt := 56) hx hb dX8_wantedOf_39 (by decide) ?_
    exact W.iret (v := zI (gA g a m)) hx hb hr (fun tz ht hW => ⟨_, rfl, congrArg zI (by show _ = _ + lk _ _ _; first | (rw [lk_lo c_34]; omega) | (rw [lk_hi c_34 (by show _ + g (8 + m) < _; omega)]; show _ = _ + (_ + g (8 + m) - _); omega) | (rw [lk_in c_34 (by show _ ≤ _ + g (8 + m); omega)]; omega)), ht⟩) (fun _ h => by cases h) dX8_wantedOf_56
set_option maxHeartbeats 4000000 in
set_option maxRecDepth 100000 in
theorem ct_X8_misfitOf (l : Launch) (D : va_G) (cI cT : ClassId) (am : Nat → Nat) (μ : Nat → Int → Int) (g : Int → Int) (hg : μ 1 = g) (hI : Inv g) (c : Int) (a : Int) (h0 : 0 ≤ c) (h1 : c < g 0) (a0 : 0 ≤ a) (a1 : a < g 1) : zMr l yX8_misfitOf wsX8_misfitOf ({ frames := 3, cells := 0, slots := 0, locals := 72 }) D cI cT [.ref (am 0), .int (zI (c)), .int (zI (a))] (fun _ H => zW D am 5 (mC cI am μ) H) (fun r => r = zI (mis g c a)) := by
  refine Met.ofW (cc := cX8_misfitOf) (maxL := 5) (ret := (some .int)) (by decide) rfl ?_
  intro p_ e_ s m_ args below meth c_ s₁ B hml hv
  obtain ⟨rfl, hK, hF⟩ := hv
  have hx := B.exec
  have hb := B.bytes
  have hr := B.returns
  have hts := atoms_spec (ws := wsX8_misfitOf) B.pre
  have hown : s.vm.findClass RX8 = some m_.cls := findClass_of_methodNamed B.named
  have hlocks := B.notSynchronized
  have S : CallFix p_ m_ c_ cX8_misfitOf 5 s _ wsX8_misfitOf RX8 := ⟨hx, hb, hml, hown, hts⟩
  have hP := hF
  have hnC := iv_nC hI
  have hnA := iv_nA hI
  have hl := lv_entry ([.ref (am 0), .int (zI (c)), .int (zI (a))]) (n := 5) (Nat.le_of_ble_eq_true rfl)
  rw [lg_entry_eq]
  generalize (lg_sl ([.ref (am 0), .int (zI (c)), .int (zI (a))]) ++ List.replicate (5 - (lg_sl ([.ref (am 0), .int (zI (c)), .int (zI (a))])).length) Slot.unset).toArray = ls at hl ⊢
  have hl : lv_has ls 5 [(0, .ref (am 0)), (1, .int (zI (c))), (2, .int (zI (a)))] := hl
  refine lv_iconst (pc := 0) (v := zI 0) hx hb dX8_misfitOf_0 rfl ?_
  refine lv_istore_n (pc := 1) (lv' := [(3, .int (zI (0))), (0, .ref (am 0)), (1, .int (zI (c))), (2, .int (zI (a)))]) hx hb dX8_misfitOf_1 rfl hl (by decide) rfl (fun ls hl => ?_)
  refine lv_iconst (pc := 2) (v := zI 0) hx hb dX8_misfitOf_2 rfl ?_
  refine lv_istore (pc := 3) (lv' := [(4, .int (zI (0))), (3, .int (zI (0))), (0, .ref (am 0)), (1, .int (zI (c))), (2, .int (zI (a)))]) hx hb dX8_misfitOf_3 hl (by decide) rfl (fun ls hl => ?_)
  refine zr_loop2 (fun (i : Nat) (x : Int) => ((i : Int) ≤ 3) ∧ (x = sm (fun m => zabs (lack g c a m)) i)) (fun (i : Nat) (x : Int) => (3 : Int).toNat - i) (fun (i : Nat) (x : Int) => [(0, .ref (am 0)), (1, .int (zI (c))), (2, .int (zI (a))), (3, .int (zI (x))), (4, .int (zI ((i : Int))))]) ?_ (0) (0) (⟨by omega, by rw [sm_0]⟩) (lv_sub hl [2, 3, 4, 1, 0] rfl)
  intro i x hinv ih_5 ls hl
  obtain ⟨h_i, h_x⟩ := hinv
  refine lv_iload (pc := 5) hx hb dX8_misfitOf_5 (lv_at hl 4 rfl) ?_
  refine lv_iconst (pc := 7) (v := zI 3) hx hb dX8_misfitOf_7 rfl ?_
  refine zr_icmp_ge (pc := 8) (tgt := 38) hx hb dX8_misfitOf_8 (by decide) (by omega) (by decide) (fun c_8 => ?_) (fun c_8 => ?_)
  · refine lv_iload_n (pc := 38) hx hb dX8_misfitOf_38 rfl (lv_at hl 3 rfl) ?_
    exact W.iret (v := zI (x)) hx hb hr (fun tz ht hW => ⟨_, rfl, congrArg zI (by rw [h_x, show i = 3 by omega, mis]), ht⟩) (fun _ h => by cases h) dX8_misfitOf_39
  · refine lv_iload_n (pc := 11) hx hb dX8_misfitOf_11 rfl (lv_at hl 3 rfl) ?_
    refine lv_aload_n (pc := 12) hx hb dX8_misfitOf_12 rfl (lv_at hl 0 rfl) ?_
    refine lv_iload_n (pc := 13) hx hb dX8_misfitOf_13 rfl (lv_at hl 1 rfl) ?_
    refine lv_iload_n (pc := 14) hx hb dX8_misfitOf_14 rfl (lv_at hl 2 rfl) ?_
    refine lv_iload (pc := 15) hx hb dX8_misfitOf_15 (lv_at hl 4 rfl) ?_
    refine zr_vi (pc := 17) (As := [.int (zI (c)), .int (zI (a)), .int (zI ((i : Int)))]) (rest := [.int (zI (x))]) S (ct_X8_wantedOf l D cI cT am μ g hg hI c a ((i : Int)) (by omega) (by omega) (by omega) (by omega) (by omega) (by omega)) (cwV 3 hts gX8_misfitOf_X8_wantedOf rfl rfl rfl (by decide +kernel) ⟨Nat.le_of_ble_eq_true rfl, Nat.le_of_ble_eq_true rfl⟩) zs0 hK hP (zr_recv hK (hP 0 (by decide)) rfl) rfl hl.1 rfl (Nat.le_of_ble_eq_true rfl) dX8_misfitOf_17 ⟨Nat.le_of_ble_eq_true rfl, Nat.le_of_ble_eq_true rfl⟩ (fun r_17 hr_17 => ?_)
    subst hr_17
    have hl_17 := lack_bd hI (c := c) (a := a) (m := ((i : Int))) (by omega) (by omega) (by omega) (by omega) (by omega) (by omega)
    have hpq_17 := pres_bd hI (c := c) (m := ((i : Int))) (by omega) (by omega) (by omega) (by omega)
    have hz_17 := zabs_bd hl_17
    refine lv_aload_n (pc := 20) hx hb dX8_misfitOf_20 rfl (lv_at hl 0 rfl) ?_
    refine lv_iload_n (pc := 21) hx hb dX8_misfitOf_21 rfl (lv_at hl 1 rfl) ?_
    refine lv_iload (pc := 22) hx hb dX8_misfitOf_22 (lv_at hl 4 rfl) ?_
    refine zr_vi (pc := 24) (As := [.int (zI (c)), .int (zI ((i : Int)))]) (rest := [.int (zI (pres g c ((i : Int)) + lack g c a ((i : Int)))), .int (zI (x))]) S (ct_X8_present l D cI cT am μ g hg hI c ((i : Int)) (by omega) (by omega) (by omega) (by omega)) (cwV 2 hts gX8_misfitOf_X8_present rfl rfl rfl (by decide +kernel) ⟨Nat.le_of_ble_eq_true rfl, Nat.le_of_ble_eq_true rfl⟩) zs0 hK hP (zr_recv hK (hP 0 (by decide)) rfl) rfl hl.1 rfl (Nat.le_of_ble_eq_true rfl) dX8_misfitOf_24 ⟨Nat.le_of_ble_eq_true rfl, Nat.le_of_ble_eq_true rfl⟩ (fun r_24 hr_24 => ?_)
    subst hr_24
    have hp_24 := pres_bd hI (c := c) (m := ((i : Int))) (by omega) (by omega) (by omega) (by omega)
    refine zr_si (pc := 27) (As := [.int (zI (pres g c ((i : Int)) + lack g c a ((i : Int)))), .int (zI (pres g c ((i : Int))))]) (rest := [.int (zI (x))]) S (ct_X8_distance l D cI cT (pres g c ((i : Int)) + lack g c a ((i : Int))) (pres g c ((i : Int))) (by omega) (by omega)) (va_cwS 2 hts gX8_misfitOf_X8_distance rfl rfl rfl (by decide +kernel) ⟨Nat.le_of_ble_eq_true rfl, Nat.le_of_ble_eq_true rfl⟩) zs0 hK trivial rfl hl.1 rfl (Nat.le_of_ble_eq_true rfl) dX8_misfitOf_27 ⟨Nat.le_of_ble_eq_true rfl, Nat.le_of_ble_eq_true rfl⟩ (fun r_27 hr_27 => ?_)
    subst hr_27
    have hz_27 := zabs_nn ((pres g c ((i : Int)) + lack g c a ((i : Int))) - (pres g c ((i : Int))))
    have e30 : zabs (pres g c i + lack g c a i - pres g c i) = zabs (lack g c a i) := congrArg zabs (by omega)
    refine zr_iadd (pc := 30) (d := x + (zabs ((pres g c ((i : Int)) + lack g c a ((i : Int))) - (pres g c ((i : Int)))))) hx hb dX8_misfitOf_30 rfl ?_
    refine lv_istore_n (pc := 31) (lv' := [(3, .int (zI (x + (zabs ((pres g c ((i : Int)) + lack g c a ((i : Int))) - (pres g c ((i : Int)))))))), (0, .ref (am 0)), (1, .int (zI (c))), (2, .int (zI (a))), (4, .int (zI ((i : Int))))]) hx hb dX8_misfitOf_31 rfl hl (by decide) rfl (fun ls hl => ?_)
    refine zr_iinc (pc := 32) (d := ((i : Int)) + 1) (lv' := [(4, .int (zI (((i : Int)) + 1))), (3, .int (zI (x + (zabs ((pres g c ((i : Int)) + lack g c a ((i : Int))) - (pres g c ((i : Int)))))))), (0, .ref (am 0)), (1, .int (zI (c))), (2, .int (zI (a)))]) hx hb dX8_misfitOf_32 hl (k := 4) rfl rfl (by decide) rfl (fun ls hl => ?_)
    refine lv_goto (pc := 35) (tgt := 5) hx hb dX8_misfitOf_35 (by decide) ?_
    exact ih_5 (i + 1) ((x + (zabs ((pres g c ((i : Int)) + lack g c a ((i : Int))) - (pres g c ((i : Int))))))) (⟨by omega, by rw [sm_s]; omega⟩) (by omega) ls (lv_sub hl [2, 3, 4, 1, 0] rfl)
set_option maxHeartbeats 4000000 in
set_option maxRecDepth 100000 in
theorem ct_X8_costumeProblems (l : Launch) (D : va_G) (cI cT : ClassId) (am : Nat → Nat) (μ : Nat → Int → Int) (g : Int → Int) (hg : μ 1 = g) (hI : Inv g) (k : Int) (k0 : 0 ≤ k) (k1 : k < 2) : zMr l yX8_costumeProblems wsX8_costumeProblems ({ frames := 3, cells := 0, slots := 0, locals := 70 }) D cI cT [.ref (am 0), .int (zI (k))] (fun _ H => zW D am 5 (mC cI am μ) H) (fun r => r = zI (prb g k)) := by
  refine Met.ofW (cc := cX8_costumeProblems) (maxL := 5) (ret := (some .int)) (by decide) rfl ?_
  intro p_ e_ s m_ args below meth c_ s₁ B hml hv
  obtain ⟨rfl, hK, hF⟩ := hv
  have hx := B.exec
  have hb := B.bytes
  have hr := B.returns
  have hts := atoms_spec (ws := wsX8_costumeProblems) B.pre
  have hown : s.vm.findClass RX8 = some m_.cls := findClass_of_methodNamed B.named
  have hlocks := B.notSynchronized
  have S : CallFix p_ m_ c_ cX8_costumeProblems 5 s _ wsX8_costumeProblems RX8 := ⟨hx, hb, hml, hown, hts⟩
  have i_X8 : ∀ w ∈ u_ws RX8 TX8 12, w ∈ wsX8_costumeProblems := fun _ h => List.mem_cons_of_mem _ (List.mem_append_right _ h)
  have hP := hF
  have hnC := iv_nC hI
  have hnA := iv_nA hI
  have hl := lv_entry ([.ref (am 0), .int (zI (k))]) (n := 5) (Nat.le_of_ble_eq_true rfl)
  rw [lg_entry_eq]
  generalize (lg_sl ([.ref (am 0), .int (zI (k))]) ++ List.replicate (5 - (lg_sl ([.ref (am 0), .int (zI (k))])).length) Slot.unset).toArray = ls at hl ⊢
  have hl : lv_has ls 5 [(0, .ref (am 0)), (1, .int (zI (k)))] := hl
  refine lv_iconst (pc := 0) (v := zI 0) hx hb dX8_costumeProblems_0 rfl ?_
  refine lv_istore_n (pc := 1) (lv' := [(2, .int (zI (0))), (0, .ref (am 0)), (1, .int (zI (k)))]) hx hb dX8_costumeProblems_1 rfl hl (by decide) rfl (fun ls hl => ?_)
  refine lv_iconst (pc := 2) (v := zI 0) hx hb dX8_costumeProblems_2 rfl ?_
  refine lv_istore_n (pc := 3) (lv' := [(3, .int (zI (0))), (2, .int (zI (0))), (0, .ref (am 0)), (1, .int (zI (k)))]) hx hb dX8_costumeProblems_3 rfl hl (by decide) rfl (fun ls hl => ?_)
  refine zr_loop2 (fun (i : Nat) (x : Int) => ((i : Int) ≤ 12 - k) ∧ (x = sm (fun sc => sm (fun c => ti (cpb g k sc c)) (g 0).toNat) i)) (fun (i : Nat) (x : Int) => (12 - k : Int).toNat - i) (fun (i : Nat) (x : Int) => [(0, .ref (am 0)), (1, .int (zI (k))), (2, .int (zI (x))), (3, .int (zI ((i : Int))))]) ?_ (0) (0) (⟨by omega, by rw [sm_0]⟩) (lv_sub hl [2, 3, 1, 0] rfl)
  intro i x hinv ih_4 ls hl
  obtain ⟨h_i, h_x⟩ := hinv
  refine lv_iload_n (pc := 4) hx hb dX8_costumeProblems_4 rfl (lv_at hl 3 rfl) ?_
  refine lv_bipush (pc := 5) (v := zI 12) hx hb dX8_costumeProblems_5 zc_bipush_12 ?_
  refine lv_iload_n (pc := 7) hx hb dX8_costumeProblems_7 rfl (lv_at hl 1 rfl) ?_
  refine zr_isub (pc := 8) (d := 12 - k) hx hb dX8_costumeProblems_8 rfl ?_
  refine zr_icmp_ge (pc := 9) (tgt := 74) hx hb dX8_costumeProblems_9 (by decide) (by omega) (by omega) (fun c_9 => ?_) (fun c_9 => ?_)
  · refine lv_iload_n (pc := 74) hx hb dX8_costumeProblems_74 rfl (lv_at hl 2 rfl) ?_
    exact W.iret (v := zI (x)) hx hb hr (fun tz ht hW => ⟨_, rfl, congrArg zI (by rw [h_x, show i = (12 - k).toNat by omega]; exact cpb_prb g k0 k1), ht⟩) (fun _ h => by cases h) dX8_costumeProblems_75
  · refine lv_iconst (pc := 12) (v := zI 0) hx hb dX8_costumeProblems_12 rfl ?_
    refine lv_istore (pc := 13) (lv' := [(4, .int (zI (0))), (0, .ref (am 0)), (1, .int (zI (k))), (2, .int (zI (x))), (3, .int (zI ((i : Int))))]) hx hb dX8_costumeProblems_13 hl (by decide) rfl (fun ls hl => ?_)
    refine zr_loop2 (fun (j : Nat) (y : Int) => ((j : Int) ≤ g 0) ∧ (y = x + sm (fun c => ti (cpb g k i c)) j)) (fun (j : Nat) (y : Int) => (g 0 : Int).toNat - j) (fun (j : Nat) (y : Int) => [(0, .ref (am 0)), (1, .int (zI (k))), (3, .int (zI ((i : Int)))), (2, .int (zI (y))), (4, .int (zI ((j : Int))))]) ?_ (0) (x) (⟨by omega, by rw [sm_0]; omega⟩) (lv_sub hl [1, 2, 4, 3, 0] rfl)
    intro j y hinv ih_15 ls hl
    obtain ⟨h_j, h_y⟩ := hinv
    refine lv_iload (pc := 15) hx hb dX8_costumeProblems_15 (lv_at hl 4 rfl) ?_
    refine lv_aload_n (pc := 17) hx hb dX8_costumeProblems_17 rfl (lv_at hl 0 rfl) ?_
    refine zr_get (pc := 18) S hK (hP 0 (by decide)) rfl i_X8 1 (by decide) (List.mem_of_getElem? (i := 1) rfl) rfl dX8_costumeProblems_18 ?_
    refine lv_iconst (pc := 21) (v := zI 0) hx hb dX8_costumeProblems_21 rfl ?_
    refine zr_ald (pc := 22) (n := 572) hx hb (zAr_of (zK_int hK) (hP 1 (by decide))) (by decide) (by decide) (by decide) dX8_costumeProblems_22 ?_
    refine zr_top (b := g 0) (congrFun hg _) ?_
    refine zr_icmp_ge (pc := 23) (tgt := 68) hx hb dX8_costumeProblems_23 (by decide) (by omega) (by omega) (fun c_23 => ?_) (fun c_23 => ?_)
    · refine zr_iinc (pc := 68) (d := ((i : Int)) + 1) (lv' := [(3, .int (zI (((i : Int)) + 1))), (0, .ref (am 0)), (1, .int (zI (k))), (2, .int (zI (y))), (4, .int (zI ((j : Int))))]) hx hb dX8_costumeProblems_68 hl (k := 2) rfl rfl (by decide) rfl (fun ls hl => ?_)
      refine lv_goto (pc := 71) (tgt := 4) hx hb dX8_costumeProblems_71 (by decide) ?_
      exact ih_4 (i + 1) (y) (⟨by omega, by rw [sm_s, h_y, h_x, show j = (g 0).toNat by omega]⟩) (by omega) ls (lv_sub hl [1, 2, 3, 0] rfl)
    · refine lv_iload_n (pc := 26) hx hb dX8_costumeProblems_26 rfl (lv_at hl 3 rfl) ?_
      refine lv_iload_n (pc := 27) hx hb dX8_costumeProblems_27 rfl (lv_at hl 1 rfl) ?_
      refine zr_if_ne (pc := 28) (tgt := 45) hx hb dX8_costumeProblems_28 (by decide) (by omega) (fun c_28 => ?_) (fun c_28 => ?_)
      · refine lv_aload_n (pc := 45) hx hb dX8_costumeProblems_45 rfl (lv_at hl 0 rfl) ?_
        refine lv_iload_n (pc := 46) hx hb dX8_costumeProblems_46 rfl (lv_at hl 2 rfl) ?_
        refine lv_iload (pc := 47) hx hb dX8_costumeProblems_47 (lv_at hl 4 rfl) ?_
        refine zr_vi (pc := 49) (As := [.int (zI ((i : Int))), .int (zI ((j : Int)))]) (rest := [.int (zI (y))]) S (ct_X8_isHanded l D cI cT am μ g hg hI ((i : Int)) ((j : Int)) (by omega) (by omega) (by omega) (by omega)) (cwV 2 hts gX8_costumeProblems_X8_isHanded rfl rfl rfl (by decide +kernel) ⟨Nat.le_of_ble_eq_true rfl, Nat.le_of_ble_eq_true rfl⟩) zs0 hK hP (zr_recv hK (hP 0 (by decide)) rfl) rfl hl.1 rfl (Nat.le_of_ble_eq_true rfl) dX8_costumeProblems_49 ⟨Nat.le_of_ble_eq_true rfl, Nat.le_of_ble_eq_true rfl⟩ (fun r_49 hr_49 => ?_)
        rcases hr_49 with ⟨hb_49, rfl⟩ | ⟨hb_49, rfl⟩
        · refine zr_if_eq (pc := 52) (tgt := 59) hx hb dX8_costumeProblems_52 (by decide) (by decide) (fun z => absurd z (by decide)) (fun _ => ?_)
          refine lv_iconst (pc := 55) (v := zI 1) hx hb dX8_costumeProblems_55 rfl ?_
          refine lv_goto (pc := 56) (tgt := 60) hx hb dX8_costumeProblems_56 (by decide) ?_
          refine zr_iadd (pc := 60) (d := y + 1) hx hb dX8_costumeProblems_60 rfl ?_
          refine lv_istore_n (pc := 61) (lv' := [(2, .int (zI (y + 1))), (0, .ref (am 0)), (1, .int (zI (k))), (3, .int (zI ((i : Int)))), (4, .int (zI ((j : Int))))]) hx hb dX8_costumeProblems_61 rfl hl (by decide) rfl (fun ls hl => ?_)
          refine zr_iinc (pc := 62) (d := ((j : Int)) + 1) (lv' := [(4, .int (zI (((j : Int)) + 1))), (2, .int (zI (y + 1))), (0, .ref (am 0)), (1, .int (zI (k))), (3, .int (zI ((i : Int))))]) hx hb dX8_costumeProblems_62 hl (k := 4) rfl rfl (by decide) rfl (fun ls hl => ?_)
          refine lv_goto (pc := 65) (tgt := 15) hx hb dX8_costumeProblems_65 (by decide) ?_
          exact ih_15 (j + 1) ((y + 1)) (⟨by omega, by first | exact sm_yes h_y (Or.inl ⟨c_28, by omega⟩) | exact sm_n0 h_y (fun q => q.elim (fun z => absurd z.2 (by omega)) (fun z => z.1 c_28)) | exact sm_yes h_y (Or.inr ⟨c_28, hb_49⟩) | exact sm_n0 h_y (fun q => q.elim (fun z => c_28 z.1) (fun z => hb_49 z.2))⟩) (by omega) ls (lv_sub hl [2, 3, 4, 1, 0] rfl)
        · refine zr_if_eq (pc := 52) (tgt := 59) hx hb dX8_costumeProblems_52 (by decide) (by decide) (fun _ => ?_) (fun z => absurd z (by decide))
          refine lv_iconst (pc := 59) (v := zI 0) hx hb dX8_costumeProblems_59 rfl ?_
          refine zr_iadd (pc := 60) (d := y + 0) hx hb dX8_costumeProblems_60 rfl ?_
          refine lv_istore_n (pc := 61) (lv' := [(2, .int (zI (y + 0))), (0, .ref (am 0)), (1, .int (zI (k))), (3, .int (zI ((i : Int)))), (4, .int (zI ((j : Int))))]) hx hb dX8_costumeProblems_61 rfl hl (by decide) rfl (fun ls hl => ?_)
          refine zr_iinc (pc := 62) (d := ((j : Int)) + 1) (lv' := [(4, .int (zI (((j : Int)) + 1))), (2, .int (zI (y + 0))), (0, .ref (am 0)), (1, .int (zI (k))), (3, .int (zI ((i : Int))))]) hx hb dX8_costumeProblems_62 hl (k := 4) rfl rfl (by decide) rfl (fun ls hl => ?_)
          refine lv_goto (pc := 65) (tgt := 15) hx hb dX8_costumeProblems_65 (by decide) ?_
          exact ih_15 (j + 1) ((y + 0)) (⟨by omega, by first | exact sm_yes h_y (Or.inl ⟨c_28, by omega⟩) | exact sm_n0 h_y (fun q => q.elim (fun z => absurd z.2 (by omega)) (fun z => z.1 c_28)) | exact sm_yes h_y (Or.inr ⟨c_28, hb_49⟩) | exact sm_n0 h_y (fun q => q.elim (fun z => c_28 z.1) (fun z => hb_49 z.2))⟩) (by omega) ls (lv_sub hl [2, 3, 4, 1, 0] rfl)
      · refine lv_aload_n (pc := 31) hx hb dX8_costumeProblems_31 rfl (lv_at hl 0 rfl) ?_
        refine lv_iload_n (pc := 32) hx hb dX8_costumeProblems_32 rfl (lv_at hl 2 rfl) ?_
        refine lv_iload (pc := 33) hx hb dX8_costumeProblems_33 (lv_at hl 4 rfl) ?_
        refine zr_vi (pc := 35) (As := [.int (zI ((i : Int))), .int (zI ((j : Int)))]) (rest := [.int (zI (y))]) S (ct_X8_wearers l D cI cT am μ g hg hI ((i : Int)) ((j : Int)) (by omega) (by omega) (by omega) (by omega)) (cwV 2 hts gX8_costumeProblems_X8_wearers rfl rfl rfl (by decide +kernel) ⟨Nat.le_of_ble_eq_true rfl, Nat.le_of_ble_eq_true rfl⟩) zs0 hK hP (zr_recv hK (hP 0 (by decide)) rfl) rfl hl.1 rfl (Nat.le_of_ble_eq_true rfl) dX8_costumeProblems_35 ⟨Nat.le_of_ble_eq_true rfl, Nat.le_of_ble_eq_true rfl⟩ (fun r_35 hr_35 => ?_)
        subst hr_35
        have hw_35 := wrs_bd hI (((i : Int))) (((j : Int)))
        refine lv_iconst (pc := 38) (v := zI 1) hx hb dX8_costumeProblems_38 rfl ?_
        refine zr_icmp_le (pc := 39) (tgt := 59) hx hb dX8_costumeProblems_39 (by decide) (by omega) (by decide) (fun c_39 => ?_) (fun c_39 => ?_)
        · refine lv_iconst (pc := 59) (v := zI 0) hx hb dX8_costumeProblems_59 rfl ?_
          refine zr_iadd (pc := 60) (d := y + 0) hx hb dX8_costumeProblems_60 rfl ?_
          refine lv_istore_n (pc := 61) (lv' := [(2, .int (zI (y + 0))), (0, .ref (am 0)), (1, .int (zI (k))), (3, .int (zI ((i : Int)))), (4, .int (zI ((j : Int))))]) hx hb dX8_costumeProblems_61 rfl hl (by decide) rfl (fun ls hl => ?_)
          refine zr_iinc (pc := 62) (d := ((j : Int)) + 1) (lv' := [(4, .int (zI (((j : Int)) + 1))), (2, .int (zI (y + 0))), (0, .ref (am 0)), (1, .int (zI (k))), (3, .int (zI ((i : Int))))]) hx hb dX8_costumeProblems_62 hl (k := 4) rfl rfl (by decide) rfl (fun ls hl => ?_)
          refine lv_goto (pc := 65) (tgt := 15) hx hb dX8_costumeProblems_65 (by decide) ?_
          exact ih_15 (j + 1) ((y + 0)) (⟨by omega, by first | exact sm_yes h_y (Or.inl ⟨c_28, by omega⟩) | exact sm_n0 h_y (fun q => q.elim (fun z => absurd z.2 (by omega)) (fun z => z.1 c_28)) | exact sm_yes h_y (Or.inr ⟨c_28, hb_49⟩) | exact sm_n0 h_y (fun q => q.elim (fun z => c_28 z.1) (fun z => hb_49 z.2))⟩) (by omega) ls (lv_sub hl [2, 3, 4, 1, 0] rfl)
        · refine lv_goto (pc := 42) (tgt := 55) hx hb dX8_costumeProblems_42 (by decide) ?_
          refine lv_iconst (pc := 55) (v := zI 1) hx hb dX8_costumeProblems_55 rfl ?_
          refine lv_goto (pc := 56) (tgt := 60) hx hb dX8_costumeProblems_56 (by decide) ?_
          refine zr_iadd (pc := 60) (d := y + 1) hx hb dX8_costumeProblems_60 rfl ?_
          refine lv_istore_n (pc := 61) (lv' := [(2, .int (zI (y + 1))), (0, .ref (am 0)), (1, .int (zI (k))), (3, .int (zI ((i : Int)))), (4, .int (zI ((j : Int))))]) hx hb dX8_costumeProblems_61 rfl hl (by decide) rfl (fun ls hl => ?_)
          refine zr_iinc (pc := 62) (d := ((j : Int)) + 1) (lv' := [(4, .int (zI (((j : Int)) + 1))), (2, .int (zI (y + 1))), (0, .ref (am 0)), (1, .int (zI (k))), (3, .int (zI ((i : Int))))]) hx hb dX8_costumeProblems_62 hl (k := 4) rfl rfl (by decide) rfl (fun ls hl => ?_)
          refine lv_goto (pc := 65) (tgt := 15) hx hb dX8_costumeProblems_65 (by decide) ?_
          exact ih_15 (j + 1) ((y + 1)) (⟨by omega, by first | exact sm_yes h_y (Or.inl ⟨c_28, by omega⟩) | exact sm_n0 h_y (fun q => q.elim (fun z => absurd z.2 (by omega)) (fun z => z.1 c_28)) | exact sm_yes h_y (Or.inr ⟨c_28, hb_49⟩) | exact sm_n0 h_y (fun q => q.elim (fun z => c_28 z.1) (fun z => hb_49 z.2))⟩) (by omega) ls (lv_sub hl [2, 3, 4, 1, 0] rfl)
set_option maxHeartbeats 4000000 in
set_option maxRecDepth 100000 in
theorem ct_X8_isProblem (l : Launch) (D : va_G) (cI cT : ClassId) (am : Nat → Nat) (μ : Nat → Int → Int) (g : Int → Int) (hg : μ 1 = g) (hI : Inv g) (c : Int) (a : Int) (k : Int) (h0 : 0 ≤ c) (h1 : c < g 0) (a0 : 0 ≤ a) (a1 : a < g 1) (k0 : 2 ≤ k) (k1 : k ≤ 4) : zMr l yX8_isProblem wsX8_isProblem ({ frames := 4, cells := 0, slots := 0, locals := 96 }) D cI cT [.ref (am 0), .int (zI (c)), .int (zI (a)), .int (zI (k))] (fun _ H => zW D am 5 (mC cI am μ) H) (fun r => bz (ams g k c a) r) := by
  refine Met.ofW (cc := cX8_isProblem) (maxL := 4) (ret := (some .boolean)) (by decide) rfl ?_
  intro p_ e_ s m_ args below meth c_ s₁ B hml hv
  obtain ⟨rfl, hK, hF⟩ := hv
  have hx := B.exec
  have hb := B.bytes
  have hr := B.returns
  have hts := atoms_spec (ws := wsX8_isProblem) B.pre
  have hown : s.vm.findClass RX8 = some m_.cls := findClass_of_methodNamed B.named
  have hlocks := B.notSynchronized
  have S : CallFix p_ m_ c_ cX8_isProblem 4 s _ wsX8_isProblem RX8 := ⟨hx, hb, hml, hown, hts⟩
  have i_X8 : ∀ w ∈ u_ws RX8 TX8 12, w ∈ wsX8_isProblem := fun _ h => List.mem_cons_of_mem _ (List.mem_append_right _ h)
  have hP := hF
  have hnC := iv_nC hI
  have hnA := iv_nA hI
  have hdi := iv_di hI h0 h1
  have hdl : 1 ≤ g 11 ∧ g 11 ≤ 9 := iv_dl hI
  have hl := lv_entry ([.ref (am 0), .int (zI (c)), .int (zI (a)), .int (zI (k))]) (n := 4) (Nat.le_of_ble_eq_true rfl)
  rw [lg_entry_eq]
  generalize (lg_sl ([.ref (am 0), .int (zI (c)), .int (zI (a)), .int (zI (k))]) ++ List.replicate (4 - (lg_sl ([.ref (am 0), .int (zI (c)), .int (zI (a)), .int (zI (k))])).length) Slot.unset).toArray = ls at hl ⊢
  have hl : lv_has ls 4 [(0, .ref (am 0)), (1, .int (zI (c))), (2, .int (zI (a))), (3, .int (zI (k)))] := hl
  refine lv_iload_n (pc := 0) hx hb dX8_isProblem_0 rfl (lv_at hl 3 rfl) ?_
  refine lv_iconst (pc := 1) (v := zI 2) hx hb dX8_isProblem_1 rfl ?_
  refine zr_icmp_ne (pc := 2) (tgt := 22) hx hb dX8_isProblem_2 (by decide) (by omega) (by decide) (fun c_2 => ?_) (fun c_2 => ?_)
  · refine lv_iload_n (pc := 22) hx hb dX8_isProblem_22 rfl (lv_at hl 3 rfl) ?_
    refine lv_iconst (pc := 23) (v := zI 3) hx hb dX8_isProblem_23 rfl ?_
    refine zr_icmp_ne (pc := 24) (tgt := 35) hx hb dX8_isProblem_24 (by decide) (by omega) (by decide) (fun c_24 => ?_) (fun c_24 => ?_)
    · refine lv_aload_n (pc := 35) hx hb dX8_isProblem_35 rfl (lv_at hl 0 rfl) ?_
      refine lv_iload_n (pc := 36) hx hb dX8_isProblem_36 rfl (lv_at hl 1 rfl) ?_
      refine lv_bipush (pc := 37) (v := zI 6) hx hb dX8_isProblem_37 zc_bipush_6 ?_
      refine zr_vi (pc := 39) (As := [.int (zI (c)), .int (zI (6))]) (rest := []) S (ct_X8_of l D cI cT am μ g hg hI c 6 (by omega) (by omega) (by omega) (by omega)) (cwV 2 hts gX8_isProblem_X8_of rfl rfl rfl (by decide +kernel) ⟨Nat.le_of_ble_eq_true rfl, Nat.le_of_ble_eq_true rfl⟩) zs0 hK hP (zr_recv hK (hP 0 (by decide)) rfl) rfl hl.1 rfl (Nat.le_of_ble_eq_true rfl) dX8_isProblem_39 ⟨Nat.le_of_ble_eq_true rfl, Nat.le_of_ble_eq_true rfl⟩ (fun r_39 hr_39 => ?_)
      subst hr_39
      refine lv_aload_n (pc := 42) hx hb dX8_isProblem_42 rfl (lv_at hl 0 rfl) ?_
      refine zr_get (pc := 43) S hK (hP 0 (by decide)) rfl i_X8 1 (by decide) (List.mem_of_getElem? (i := 1) rfl) rfl dX8_isProblem_43 ?_
      refine lv_bipush (pc := 46) (v := zI 11) hx hb dX8_isProblem_46 zc_bipush_11 ?_
      refine zr_ald (pc := 48) (n := 572) hx hb (zAr_of (zK_int hK) (hP 1 (by decide))) (by decide) (by decide) (by decide) dX8_isProblem_48 ?_
      refine zr_top (b := g 11) (congrFun hg _) ?_
      refine zr_icmp_lt (pc := 49) (tgt := 56) hx hb dX8_isProblem_49 (by decide) (by omega) (by omega) (fun c_49 => ?_) (fun c_49 => ?_)
      · refine lv_iconst (pc := 56) (v := zI 0) hx hb dX8_isProblem_56 rfl ?_
        exact W.zret (ty := .boolean) (v := zI (0)) hx hb hr (by first | rfl | decide) (fun tz ht hW => ⟨_, rfl, bz_f (fun q => by rcases q with ⟨z, y⟩ | ⟨z, y⟩ | ⟨z, y⟩ <;> first | omega | exact hb_29 y | (have e3 : gS g 3 = g 11 := rfl; omega)), ht⟩) (fun _ h => by cases h) dX8_isProblem_57
      · refine lv_iconst (pc := 52) (v := zI 1) hx hb dX8_isProblem_52 rfl ?_
        refine lv_goto (pc := 53) (tgt := 57) hx hb dX8_isProblem_53 (by decide) ?_
        exact W.zret (ty := .boolean) (v := zI (1)) hx hb hr (by first | rfl | decide) (fun tz ht hW => ⟨_, rfl, bz_t (by first | exact Or.inl ⟨c_2, by omega⟩ | exact Or.inr (Or.inl ⟨c_24, hb_29⟩) | exact Or.inr (Or.inr ⟨by omega, by have e3 : gS g 3 = g 11 := rfl; omega⟩)), ht⟩) (fun _ h => by cases h) dX8_isProblem_57
    · refine lv_aload_n (pc := 27) hx hb dX8_isProblem_27 rfl (lv_at hl 0 rfl) ?_
      refine lv_iload_n (pc := 28) hx hb dX8_isProblem_28 rfl (lv_at hl 1 rfl) ?_
      refine zr_vi (pc := 29) (As := [.int (zI (c))]) (rest := []) S (ct_X8_isAwayToday l D cI cT am μ g hg hI c (by omega) (by omega)) (cwV 1 hts gX8_isProblem_X8_isAwayToday rfl rfl rfl (by decide +kernel) ⟨Nat.le_of_ble_eq_true rfl, Nat.le_of_ble_eq_true rfl⟩) zs0 hK hP (zr_recv hK (hP 0 (by decide)) rfl) rfl hl.1 rfl (Nat.le_of_ble_eq_true rfl) dX8_isProblem_29 ⟨Nat.le_of_ble_eq_true rfl, Nat.le_of_ble_eq_true rfl⟩ (fun r_29 hr_29 => ?_)
      rcases hr_29 with ⟨hb_29, rfl⟩ | ⟨hb_29, rfl⟩
      · refine lv_goto (pc := 32) (tgt := 57) hx hb dX8_isProblem_32 (by decide) ?_
        exact W.zret (ty := .boolean) (v := zI (1)) hx hb hr (by first | rfl | decide) (fun tz ht hW => ⟨_, rfl, bz_t (by first | exact Or.inl ⟨c_2, by omega⟩ | exact Or.inr (Or.inl ⟨c_24, hb_29⟩) | exact Or.inr (Or.inr ⟨by omega, by have e3 : gS g 3 = g 11 := rfl; omega⟩)), ht⟩) (fun _ h => by cases h) dX8_isProblem_57
      · refine lv_goto (pc := 32) (tgt := 57) hx hb dX8_isProblem_32 (by decide) ?_
        exact W.zret (ty := .boolean) (v := zI (0)) hx hb hr (by first | rfl | decide) (fun tz ht hW => ⟨_, rfl, bz_f (fun q => by rcases q with ⟨z, y⟩ | ⟨z, y⟩ | ⟨z, y⟩ <;> first | omega | exact hb_29 y | (have e3 : gS g 3 = g 11 := rfl; omega)), ht⟩) (fun _ h => by cases h) dX8_isProblem_57
  · refine lv_aload_n (pc := 5) hx hb dX8_isProblem_5 rfl (lv_at hl 0 rfl) ?_
    refine lv_iload_n (pc := 6) hx hb dX8_isProblem_6 rfl (lv_at hl 1 rfl) ?_
    refine lv_iload_n (pc := 7) hx hb dX8_isProblem_7 rfl (lv_at hl 2 rfl) ?_
    refine zr_vi (pc := 8) (As := [.int (zI (c)), .int (zI (a))]) (rest := []) S (ct_X8_misfitOf l D cI cT am μ g hg hI c a (by omega) (by omega) (by omega) (by omega)) (cwV 2 hts gX8_isProblem_X8_misfitOf rfl rfl rfl (by decide +kernel) ⟨Nat.le_of_ble_eq_true rfl, Nat.le_of_ble_eq_true rfl⟩) zs0 hK hP (zr_recv hK (hP 0 (by decide)) rfl) rfl hl.1 rfl (Nat.le_of_ble_eq_true rfl) dX8_isProblem_8 ⟨Nat.le_of_ble_eq_true rfl, Nat.le_of_ble_eq_true rfl⟩ (fun r_8 hr_8 => ?_)
    subst hr_8
    have hm_8 := mis_bd hI (c := c) (a := a) (by omega) (by omega) (by omega) (by omega)
    refine zr_if_le (pc := 11) (tgt := 18) hx hb dX8_isProblem_11 (by decide) (by omega) (fun c_11 => ?_) (fun c_11 => ?_)
    · refine lv_iconst (pc := 18) (v := zI 0) hx hb dX8_isProblem_18 rfl ?_
      refine lv_goto (pc := 19) (tgt := 57) hx hb dX8_isProblem_19 (by decide) ?_
      exact W.zret (ty := .boolean) (v := zI (0)) hx hb hr (by first | rfl | decide) (fun tz ht hW => ⟨_, rfl, bz_f (fun q => by rcases q with ⟨z, y⟩ | ⟨z, y⟩ | ⟨z, y⟩ <;> first | omega | exact hb_29 y | (have e3 : gS g 3 = g 11 := rfl; omega)), ht⟩) (fun _ h => by cases h) dX8_isProblem_57
    · refine lv_iconst (pc := 14) (v := zI 1) hx hb dX8_isProblem_14 rfl ?_
      refine lv_goto (pc := 15) (tgt := 57) hx hb dX8_isProblem_15 (by decide) ?_
      exact W.zret (ty := .boolean) (v := zI (1)) hx hb hr (by first | rfl | decide) (fun tz ht hW => ⟨_, rfl, bz_t (by first | exact Or.inl ⟨c_2, by omega⟩ | exact Or.inr (Or.inl ⟨c_24, hb_29⟩) | exact Or.inr (Or.inr ⟨by omega, by have e3 : gS g 3 = g 11 := rfl; omega⟩)), ht⟩) (fun _ h => by cases h) dX8_isProblem_57
set_option maxHeartbeats 4000000 in
set_option maxRecDepth 100000 in
theorem ct_X8_problemsOf (l : Launch) (D : va_G) (cI cT : ClassId) (am : Nat → Nat) (μ : Nat → Int → Int) (g : Int → Int) (hg : μ 1 = g) (hI : Inv g) (k : Int) (k0 : 0 ≤ k) (k1 : k ≤ 4) : zMr l yX8_problemsOf wsX8_problemsOf ({ frames := 5, cells := 0, slots := 0, locals := 119 }) D cI cT [.ref (am 0), .int (zI (k))] (fun _ H => zW D am 5 (mC cI am μ) H) (fun r => r = zI (prb g k)) := by
  refine Met.ofW (cc := cX8_problemsOf) (maxL := 5) (ret := (some .int)) (by decide) rfl ?_
  intro p_ e_ s m_ args below meth c_ s₁ B hml hv
  obtain ⟨rfl, hK, hF⟩ := hv
  have hx := B.exec
  have hb := B.bytes
  have hr := B.returns
  have hts := atoms_spec (ws := wsX8_problemsOf) B.pre
  have hown : s.vm.findClass RX8 = some m_.cls := findClass_of_methodNamed B.named
  have hlocks := B.notSynchronized
  have S : CallFix p_ m_ c_ cX8_problemsOf 5 s _ wsX8_problemsOf RX8 := ⟨hx, hb, hml, hown, hts⟩
  have i_X8 : ∀ w ∈ u_ws RX8 TX8 12, w ∈ wsX8_problemsOf := fun _ h => List.mem_cons_of_mem _ (List.mem_append_right _ h)
  have hP := hF
  have hnC := iv_nC hI
  have hnA := iv_nA hI
  have hl := lv_entry ([.ref (am 0), .int (zI (k))]) (n := 5) (Nat.le_of_ble_eq_true rfl)
  rw [lg_entry_eq]
  generalize (lg_sl ([.ref (am 0), .int (zI (k))]) ++ List.replicate (5 - (lg_sl ([.ref (am 0), .int (zI (k))])).length) Slot.unset).toArray = ls at hl ⊢
  have hl : lv_has ls 5 [(0, .ref (am 0)), (1, .int (zI (k)))] := hl
  refine lv_iload_n (pc := 0) hx hb dX8_problemsOf_0 rfl (lv_at hl 1 rfl) ?_
  refine lv_iconst (pc := 1) (v := zI 2) hx hb dX8_problemsOf_1 rfl ?_
  refine zr_icmp_ge (pc := 2) (tgt := 11) hx hb dX8_problemsOf_2 (by decide) (by omega) (by decide) (fun c_2 => ?_) (fun c_2 => ?_)
  · refine lv_iconst (pc := 11) (v := zI 0) hx hb dX8_problemsOf_11 rfl ?_
    refine lv_istore_n (pc := 12) (lv' := [(2, .int (zI (0))), (0, .ref (am 0)), (1, .int (zI (k)))]) hx hb dX8_problemsOf_12 rfl hl (by decide) rfl (fun ls hl => ?_)
    refine lv_iconst (pc := 13) (v := zI 0) hx hb dX8_problemsOf_13 rfl ?_
    refine lv_istore_n (pc := 14) (lv' := [(3, .int (zI (0))), (2, .int (zI (0))), (0, .ref (am 0)), (1, .int (zI (k)))]) hx hb dX8_problemsOf_14 rfl hl (by decide) rfl (fun ls hl => ?_)
    refine zr_loop2 (fun (i : Nat) (x : Int) => ((i : Int) ≤ 12) ∧ (x = sm (fun sc => sm (fun a => ti (amw g k sc a)) (g 1).toNat) i)) (fun (i : Nat) (x : Int) => (12 : Int).toNat - i) (fun (i : Nat) (x : Int) => [(0, .ref (am 0)), (1, .int (zI (k))), (2, .int (zI (x))), (3, .int (zI ((i : Int))))]) ?_ (0) (0) (⟨by omega, by rw [sm_0]⟩) (lv_sub hl [2, 3, 1, 0] rfl)
    intro i x hinv ih_15 ls hl
    obtain ⟨h_i, h_x⟩ := hinv
    refine lv_iload_n (pc := 15) hx hb dX8_problemsOf_15 rfl (lv_at hl 3 rfl) ?_
    refine lv_bipush (pc := 16) (v := zI 12) hx hb dX8_problemsOf_16 zc_bipush_12 ?_
    refine zr_icmp_ge (pc := 18) (tgt := 83) hx hb dX8_problemsOf_18 (by decide) (by omega) (by decide) (fun c_18 => ?_) (fun c_18 => ?_)
    · refine lv_iload_n (pc := 83) hx hb dX8_problemsOf_83 rfl (lv_at hl 2 rfl) ?_
      exact W.iret (v := zI (x)) hx hb hr (fun tz ht hW => ⟨_, rfl, congrArg zI (by rw [h_x, show i = 12 by omega]; exact (prb_2 (by omega) (by omega)).symm), ht⟩) (fun _ h => by cases h) dX8_problemsOf_84
    · refine lv_iconst (pc := 21) (v := zI 0) hx hb dX8_problemsOf_21 rfl ?_
      refine lv_istore (pc := 22) (lv' := [(4, .int (zI (0))), (0, .ref (am 0)), (1, .int (zI (k))), (2, .int (zI (x))), (3, .int (zI ((i : Int))))]) hx hb dX8_problemsOf_22 hl (by decide) rfl (fun ls hl => ?_)
      refine zr_loop2 (fun (j : Nat) (y : Int) => ((j : Int) ≤ g 1) ∧ (y = x + sm (fun a => ti (amw g k i a)) j)) (fun (j : Nat) (y : Int) => (g 1 : Int).toNat - j) (fun (j : Nat) (y : Int) => [(0, .ref (am 0)), (1, .int (zI (k))), (3, .int (zI ((i : Int)))), (2, .int (zI (y))), (4, .int (zI ((j : Int))))]) ?_ (0) (x) (⟨by omega, by rw [sm_0]; omega⟩) (lv_sub hl [1, 2, 4, 3, 0] rfl)
      intro j y hinv ih_24 ls hl
      obtain ⟨h_j, h_y⟩ := hinv
      refine lv_iload (pc := 24) hx hb dX8_problemsOf_24 (lv_at hl 4 rfl) ?_
      refine lv_aload_n (pc := 26) hx hb dX8_problemsOf_26 rfl (lv_at hl 0 rfl) ?_
      refine zr_get (pc := 27) S hK (hP 0 (by decide)) rfl i_X8 1 (by decide) (List.mem_of_getElem? (i := 1) rfl) rfl dX8_problemsOf_27 ?_
      refine lv_iconst (pc := 30) (v := zI 1) hx hb dX8_problemsOf_30 rfl ?_
      refine zr_ald (pc := 31) (n := 572) hx hb (zAr_of (zK_int hK) (hP 1 (by decide))) (by decide) (by decide) (by decide) dX8_problemsOf_31 ?_
      refine zr_top (b := g 1) (congrFun hg _) ?_
      refine zr_icmp_ge (pc := 32) (tgt := 77) hx hb dX8_problemsOf_32 (by decide) (by omega) (by omega) (fun c_32 => ?_) (fun c_32 => ?_)
      · refine zr_iinc (pc := 77) (d := ((i : Int)) + 1) (lv' := [(3, .int (zI (((i : Int)) + 1))), (0, .ref (am 0)), (1, .int (zI (k))), (2, .int (zI (y))), (4, .int (zI ((j : Int))))]) hx hb dX8_problemsOf_77 hl (k := 2) rfl rfl (by decide) rfl (fun ls hl => ?_)
        refine lv_goto (pc := 80) (tgt := 15) hx hb dX8_problemsOf_80 (by decide) ?_
        exact ih_15 (i + 1) (y) (⟨by omega, by rw [sm_s, h_y, h_x, show j = (g 1).toNat by omega]⟩) (by omega) ls (lv_sub hl [1, 2, 3, 0] rfl)
      · refine lv_iload_n (pc := 35) hx hb dX8_problemsOf_35 rfl (lv_at hl 3 rfl) ?_
        refine lv_aload_n (pc := 36) hx hb dX8_problemsOf_36 rfl (lv_at hl 0 rfl) ?_
        refine lv_iload_n (pc := 37) hx hb dX8_problemsOf_37 rfl (lv_at hl 2 rfl) ?_
        refine lv_iload (pc := 38) hx hb dX8_problemsOf_38 (lv_at hl 4 rfl) ?_
        refine zr_vi (pc := 40) (As := [.int (zI ((i : Int))), .int (zI ((j : Int)))]) (rest := [.int (zI (y))]) S (ct_X8_worn l D cI cT am μ g hg hI ((i : Int)) ((j : Int)) (by omega) (by omega) (by omega) (by omega)) (cwV 2 hts gX8_problemsOf_X8_worn rfl rfl rfl (by decide +kernel) ⟨Nat.le_of_ble_eq_true rfl, Nat.le_of_ble_eq_true rfl⟩) zs0 hK hP (zr_recv hK (hP 0 (by decide)) rfl) rfl hl.1 rfl (Nat.le_of_ble_eq_true rfl) dX8_problemsOf_40 ⟨Nat.le_of_ble_eq_true rfl, Nat.le_of_ble_eq_true rfl⟩ (fun r_40 hr_40 => ?_)
        subst hr_40
        have hwo := iv_wo hI (a := (j : Int)) (sc := (i : Int)) (by omega) (by omega) (by omega) (by omega)
        refine lv_iconst (pc := 43) (v := zI (-1)) hx hb dX8_problemsOf_43 rfl ?_
        refine zr_icmp_eq (pc := 44) (tgt := 68) hx hb dX8_problemsOf_44 (by decide) (by omega) (by decide) (fun c_44 => ?_) (fun c_44 => ?_)
        · refine lv_iconst (pc := 68) (v := zI 0) hx hb dX8_problemsOf_68 rfl ?_
          refine zr_iadd (pc := 69) (d := y + 0) hx hb dX8_problemsOf_69 rfl ?_
          refine lv_istore_n (pc := 70) (lv' := [(2, .int (zI (y + 0))), (0, .ref (am 0)), (1, .int (zI (k))), (3, .int (zI ((i : Int)))), (4, .int (zI ((j : Int))))]) hx hb dX8_problemsOf_70 rfl hl (by decide) rfl (fun ls hl => ?_)
          refine zr_iinc (pc := 71) (d := ((j : Int)) + 1) (lv' := [(4, .int (zI (((j : Int)) + 1))), (2, .int (zI (y + 0))), (0, .ref (am 0)), (1, .int (zI (k))), (3, .int (zI ((i : Int))))]) hx hb dX8_problemsOf_71 hl (k := 4) rfl rfl (by decide) rfl (fun ls hl => ?_)
          refine lv_goto (pc := 74) (tgt := 24) hx hb dX8_problemsOf_74 (by decide) ?_
          exact ih_24 (j + 1) ((y + 0)) (⟨by omega, by first | exact sm_n0 h_y (fun q => q.1 c_44) | exact sm_yes h_y ⟨c_44, hb_58⟩ | exact sm_n0 h_y (fun q => hb_58 q.2)⟩) (by omega) ls (lv_sub hl [2, 3, 4, 1, 0] rfl)
        · refine lv_aload_n (pc := 47) hx hb dX8_problemsOf_47 rfl (lv_at hl 0 rfl) ?_
          refine lv_aload_n (pc := 48) hx hb dX8_problemsOf_48 rfl (lv_at hl 0 rfl) ?_
          refine lv_iload_n (pc := 49) hx hb dX8_problemsOf_49 rfl (lv_at hl 2 rfl) ?_
          refine lv_iload (pc := 50) hx hb dX8_problemsOf_50 (lv_at hl 4 rfl) ?_
          refine zr_vi (pc := 52) (As := [.int (zI ((i : Int))), .int (zI ((j : Int)))]) (rest := [.ref (am 0), .int (zI (y))]) S (ct_X8_worn l D cI cT am μ g hg hI ((i : Int)) ((j : Int)) (by omega) (by omega) (by omega) (by omega)) (cwV 2 hts gX8_problemsOf_X8_worn rfl rfl rfl (by decide +kernel) ⟨Nat.le_of_ble_eq_true rfl, Nat.le_of_ble_eq_true rfl⟩) zs0 hK hP (zr_recv hK (hP 0 (by decide)) rfl) rfl hl.1 rfl (Nat.le_of_ble_eq_true rfl) dX8_problemsOf_52 ⟨Nat.le_of_ble_eq_true rfl, Nat.le_of_ble_eq_true rfl⟩ (fun r_52 hr_52 => ?_)
          subst hr_52
          refine lv_iload (pc := 55) hx hb dX8_problemsOf_55 (lv_at hl 4 rfl) ?_
          refine lv_iload_n (pc := 57) hx hb dX8_problemsOf_57 rfl (lv_at hl 1 rfl) ?_
          refine zr_vi (pc := 58) (As := [.int (zI (gW g ((i : Int)) ((j : Int)))), .int (zI ((j : Int))), .int (zI (k))]) (rest := [.int (zI (y))]) S (ct_X8_isProblem l D cI cT am μ g hg hI (gW g ((i : Int)) ((j : Int))) ((j : Int)) k (by omega) (by omega) (by omega) (by omega) (by omega) (by omega)) (cwV 3 hts gX8_problemsOf_X8_isProblem rfl rfl rfl (by decide +kernel) ⟨Nat.le_of_ble_eq_true rfl, Nat.le_of_ble_eq_true rfl⟩) zs0 hK hP (zr_recv hK (hP 0 (by decide)) rfl) rfl hl.1 rfl (Nat.le_of_ble_eq_true rfl) dX8_problemsOf_58 ⟨Nat.le_of_ble_eq_true rfl, Nat.le_of_ble_eq_true rfl⟩ (fun r_58 hr_58 => ?_)
          rcases hr_58 with ⟨hb_58, rfl⟩ | ⟨hb_58, rfl⟩
          · refine zr_if_eq (pc := 61) (tgt := 68) hx hb dX8_problemsOf_61 (by decide) (by decide) (fun z => absurd z (by decide)) (fun _ => ?_)
            refine lv_iconst (pc := 64) (v := zI 1) hx hb dX8_problemsOf_64 rfl ?_
            refine lv_goto (pc := 65) (tgt := 69) hx hb dX8_problemsOf_65 (by decide) ?_
            refine zr_iadd (pc := 69) (d := y + 1) hx hb dX8_problemsOf_69 rfl ?_
            refine lv_istore_n (pc := 70) (lv' := [(2, .int (zI (y + 1))), (0, .ref (am 0)), (1, .int (zI (k))), (3, .int (zI ((i : Int)))), (4, .int (zI ((j : Int))))]) hx hb dX8_problemsOf_70 rfl hl (by decide) rfl (fun ls hl => ?_)
            refine zr_iinc (pc := 71) (d := ((j : Int)) + 1) (lv' := [(4, .int (zI (((j : Int)) + 1))), (2, .int (zI (y + 1))), (0, .ref (am 0)), (1, .int (zI (k))), (3, .int (zI ((i : Int))))]) hx hb dX8_problemsOf_71 hl (k := 4) rfl rfl (by decide) rfl (fun ls hl => ?_)
            refine lv_goto (pc := 74) (tgt := 24) hx hb dX8_problemsOf_74 (by decide) ?_
            exact ih_24 (j + 1) ((y + 1)) (⟨by omega, by first | exact sm_n0 h_y (fun q => q.1 c_44) | exact sm_yes h_y ⟨c_44, hb_58⟩ | exact sm_n0 h_y (fun q => hb_58 q.2)⟩) (by omega) ls (lv_sub hl [2, 3, 4, 1, 0] rfl)
          · refine zr_if_eq (pc := 61) (tgt := 68) hx hb dX8_problemsOf_61 (by decide) (by decide) (fun _ => ?_) (fun z => absurd z (by decide))
            refine lv_iconst (pc := 68) (v := zI 0) hx hb dX8_problemsOf_68 rfl ?_
            refine zr_iadd (pc := 69) (d := y + 0) hx hb dX8_problemsOf_69 rfl ?_
            refine lv_istore_n (pc := 70) (lv' := [(2, .int (zI (y + 0))), (0, .ref (am 0)), (1, .int (zI (k))), (3, .int (zI ((i : Int)))), (4, .int (zI ((j : Int))))]) hx hb dX8_problemsOf_70 rfl hl (by decide) rfl (fun ls hl => ?_)
            refine zr_iinc (pc := 71) (d := ((j : Int)) + 1) (lv' := [(4, .int (zI (((j : Int)) + 1))), (2, .int (zI (y + 0))), (0, .ref (am 0)), (1, .int (zI (k))), (3, .int (zI ((i : Int))))]) hx hb dX8_problemsOf_71 hl (k := 4) rfl rfl (by decide) rfl (fun ls hl => ?_)
            refine lv_goto (pc := 74) (tgt := 24) hx hb dX8_problemsOf_74 (by decide) ?_
            exact ih_24 (j + 1) ((y + 0)) (⟨by omega, by first | exact sm_n0 h_y (fun q => q.1 c_44) | exact sm_yes h_y ⟨c_44, hb_58⟩ | exact sm_n0 h_y (fun q => hb_58 q.2)⟩) (by omega) ls (lv_sub hl [2, 3, 4, 1, 0] rfl)
  · refine lv_aload_n (pc := 5) hx hb dX8_problemsOf_5 rfl (lv_at hl 0 rfl) ?_
    refine lv_iload_n (pc := 6) hx hb dX8_problemsOf_6 rfl (lv_at hl 1 rfl) ?_
    refine zr_vi (pc := 7) (As := [.int (zI (k))]) (rest := []) S (ct_X8_costumeProblems l D cI cT am μ g hg hI k (by omega) (by omega)) (cwV 1 hts gX8_problemsOf_X8_costumeProblems rfl rfl rfl (by decide +kernel) ⟨Nat.le_of_ble_eq_true rfl, Nat.le_of_ble_eq_true rfl⟩) zs0 hK hP (zr_recv hK (hP 0 (by decide)) rfl) rfl hl.1 rfl (Nat.le_of_ble_eq_true rfl) dX8_problemsOf_7 ⟨Nat.le_of_ble_eq_true rfl, Nat.le_of_ble_eq_true rfl⟩ (fun r_7 hr_7 => ?_)
    subst hr_7
    have hpb_7 := prb_bd hI k
    exact W.iret (v := zI (prb g k)) hx hb hr (fun tz ht hW => ⟨_, rfl, congrArg zI (rfl), ht⟩) (fun _ h => by cases h) dX8_problemsOf_10
set_option maxHeartbeats 4000000 in
set_option maxRecDepth 100000 in
theorem ct_X8_isAwayIn (l : Launch) (D : va_G) (cI cT : ClassId) (am : Nat → Nat) (μ : Nat → Int → Int) (g : Int → Int) (hg : μ 1 = g) (hI : Inv g) (c : Int) (d : Int) (n : Int) (c0 : -1 ≤ c) (c1 : c ≤ 100) (d0 : 0 ≤ d) (d1 : d ≤ 1000) (n0 : 0 ≤ n) (n1 : n ≤ 100) : zMr l yX8_isAwayIn wsX8_isAwayIn ({ frames := 1, cells := 0, slots := 0, locals := 22 }) D cI cT [.ref (am 0), .int (zI (c)), .int (zI (d)), .int (zI (n))] (fun _ H => zW D am 5 (mC cI am μ) H) (fun r => bz (awy g c d n) r) := by
  refine Met.ofW (cc := cX8_isAwayIn) (maxL := 7) (ret := (some .boolean)) (by decide) rfl ?_
  intro p_ e_ s m_ args below meth c_ s₁ B hml hv
  obtain ⟨rfl, hK, hF⟩ := hv
  have hx := B.exec
  have hb := B.bytes
  have hr := B.returns
  have hts := atoms_spec (ws := wsX8_isAwayIn) B.pre
  have hown : s.vm.findClass RX8 = some m_.cls := findClass_of_methodNamed B.named
  have hlocks := B.notSynchronized
  have S : CallFix p_ m_ c_ cX8_isAwayIn 7 s _ wsX8_isAwayIn RX8 := ⟨hx, hb, hml, hown, hts⟩
  have i_X8 : ∀ w ∈ u_ws RX8 TX8 12, w ∈ wsX8_isAwayIn := fun _ h => List.mem_cons_of_mem _ (List.mem_append_right _ h)
  have hP := hF
  have hnH := iv_nH hI
  have hnC := iv_nC hI
  have hl := lv_entry ([.ref (am 0), .int (zI (c)), .int (zI (d)), .int (zI (n))]) (n := 7) (Nat.le_of_ble_eq_true rfl)
  rw [lg_entry_eq]
  generalize (lg_sl ([.ref (am 0), .int (zI (c)), .int (zI (d)), .int (zI (n))]) ++ List.replicate (7 - (lg_sl ([.ref (am 0), .int (zI (c)), .int (zI (d)), .int (zI (n))])).length) Slot.unset).toArray = ls at hl ⊢
  have hl : lv_has ls 7 [(0, .ref (am 0)), (1, .int (zI (c))), (2, .int (zI (d))), (3, .int (zI (n)))] := hl
  refine lv_iconst (pc := 0) (v := zI 0) hx hb dX8_isAwayIn_0 rfl ?_
  refine lv_istore (pc := 1) (lv' := [(4, .int (zI (0))), (0, .ref (am 0)), (1, .int (zI (c))), (2, .int (zI (d))), (3, .int (zI (n)))]) hx hb dX8_isAwayIn_1 hl (by decide) rfl (fun ls hl => ?_)
  refine lv_iconst (pc := 3) (v := zI 0) hx hb dX8_isAwayIn_3 rfl ?_
  refine lv_istore (pc := 4) (lv' := [(5, .int (zI (0))), (4, .int (zI (0))), (0, .ref (am 0)), (1, .int (zI (c))), (2, .int (zI (d))), (3, .int (zI (n)))]) hx hb dX8_isAwayIn_4 hl (by decide) rfl (fun ls hl => ?_)
  refine zr_loop2 (fun (i : Nat) (x : Int) => ((i : Int) ≤ g 2) ∧ ((x = 0 ∧ ∀ b : Int, 0 ≤ b → b < (i : Int) → ¬ ovl g c d n b) ∨ (x = 1 ∧ ∃ b : Int, 0 ≤ b ∧ b < (i : Int) ∧ ovl g c d n b))) (fun (i : Nat) (x : Int) => (g 2 : Int).toNat - i) (fun (i : Nat) (x : Int) => [(0, .ref (am 0)), (1, .int (zI (c))), (2, .int (zI (d))), (3, .int (zI (n))), (4, .int (zI (x))), (5, .int (zI ((i : Int))))]) ?_ (0) (0) (⟨by omega, Or.inl ⟨rfl, fa_0⟩⟩) (lv_sub hl [2, 3, 4, 5, 1, 0] rfl)
  intro i x hinv ih_6 ls hl
  obtain ⟨h_i, h_b⟩ := hinv
  refine lv_iload (pc := 6) hx hb dX8_isAwayIn_6 (lv_at hl 5 rfl) ?_
  refine lv_aload_n (pc := 8) hx hb dX8_isAwayIn_8 rfl (lv_at hl 0 rfl) ?_
  refine zr_get (pc := 9) S hK (hP 0 (by decide)) rfl i_X8 1 (by decide) (List.mem_of_getElem? (i := 1) rfl) rfl dX8_isAwayIn_9 ?_
  refine lv_iconst (pc := 12) (v := zI 2) hx hb dX8_isAwayIn_12 rfl ?_
  refine zr_ald (pc := 13) (n := 572) hx hb (zAr_of (zK_int hK) (hP 1 (by decide))) (by decide) (by decide) (by decide) dX8_isAwayIn_13 ?_
  refine zr_top (b := g 2) (congrFun hg _) ?_
  refine zr_icmp_ge (pc := 14) (tgt := 77) hx hb dX8_isAwayIn_14 (by decide) (by omega) (by omega) (fun c_14 => ?_) (fun c_14 => ?_)
  · have hx01 : x = 0 ∨ x = 1 := h_b.elim (fun z => Or.inl z.1) (fun z => Or.inr z.1)
    refine lv_iload (pc := 77) hx hb dX8_isAwayIn_77 (lv_at hl 4 rfl) ?_
    exact W.zret (ty := .boolean) (v := zI (x)) hx hb hr (by rcases hx01 with e | e <;> rw [e] <;> rfl) (fun tz ht hW => ⟨_, rfl, by rcases h_b with ⟨e, z⟩ | ⟨e, z⟩ <;> rw [e] <;> first | exact bz_f (fun h => by obtain ⟨b, b0, b1, b2⟩ := h; exact z b b0 (by omega) b2) | exact bz_t (z.imp (fun b q => ⟨q.1, by omega, q.2.2⟩)), ht⟩) (fun _ h => by cases h) dX8_isAwayIn_79
  · have hh := iv_hi hI (h := (i : Int)) (by omega) (by omega)
    refine lv_aload_n (pc := 17) hx hb dX8_isAwayIn_17 rfl (lv_at hl 0 rfl) ?_
    refine lv_iload (pc := 18) hx hb dX8_isAwayIn_18 (lv_at hl 5 rfl) ?_
    refine lv_iconst (pc := 20) (v := zI 1) hx hb dX8_isAwayIn_20 rfl ?_
    refine zr_vi (pc := 21) (As := [.int (zI ((i : Int))), .int (zI (1))]) (rest := []) S (ct_X8_ofHire l D cI cT am μ g hg hI ((i : Int)) 1 (by omega) (by omega) (by omega) (by omega)) (cwV 2 hts gX8_isAwayIn_X8_ofHire rfl rfl rfl (by decide +kernel) ⟨Nat.le_of_ble_eq_true rfl, Nat.le_of_ble_eq_true rfl⟩) zs0 hK hP (zr_recv hK (hP 0 (by decide)) rfl) rfl hl.1 rfl (Nat.le_of_ble_eq_true rfl) dX8_isAwayIn_21 ⟨Nat.le_of_ble_eq_true rfl, Nat.le_of_ble_eq_true rfl⟩ (fun r_21 hr_21 => ?_)
    subst hr_21
    refine lv_istore (pc := 24) (lv' := [(6, .int (zI (gH g ((i : Int)) 1))), (0, .ref (am 0)), (1, .int (zI (c))), (2, .int (zI (d))), (3, .int (zI (n))), (4, .int (zI (x))), (5, .int (zI ((i : Int))))]) hx hb dX8_isAwayIn_24 hl (by decide) rfl (fun ls hl => ?_)
    refine lv_iload (pc := 26) hx hb dX8_isAwayIn_26 (lv_at hl 5 rfl) ?_
    refine zr_if_ne (pc := 28) (tgt := 64) hx hb dX8_isAwayIn_28 (by decide) (by omega) (fun c_28 => ?_) (fun c_28 => ?_)
    · refine lv_iconst (pc := 64) (v := zI 1) hx hb dX8_isAwayIn_64 rfl ?_
      refine lv_goto (pc := 65) (tgt := 69) hx hb dX8_isAwayIn_65 (by decide) ?_
      refine lv_istore (pc := 69) (lv' := [(4, .int (zI (1))), (6, .int (zI (gH g ((i : Int)) 1))), (0, .ref (am 0)), (1, .int (zI (c))), (2, .int (zI (d))), (3, .int (zI (n))), (5, .int (zI ((i : Int))))]) hx hb dX8_isAwayIn_69 hl (by decide) rfl (fun ls hl => ?_)
      refine zr_iinc (pc := 71) (d := ((i : Int)) + 1) (lv' := [(5, .int (zI (((i : Int)) + 1))), (4, .int (zI (1))), (6, .int (zI (gH g ((i : Int)) 1))), (0, .ref (am 0)), (1, .int (zI (c))), (2, .int (zI (d))), (3, .int (zI (n)))]) hx hb dX8_isAwayIn_71 hl (k := 6) rfl rfl (by decide) rfl (fun ls hl => ?_)
      refine lv_goto (pc := 74) (tgt := 6) hx hb dX8_isAwayIn_74 (by decide) ?_
      exact ih_6 (i + 1) (1) (⟨by omega, by first | exact Or.inr ⟨rfl, (h_b.resolve_left (fun z => c_28 z.1)).2.imp (fun b q => ⟨q.1, by omega, q.2.2⟩)⟩ | exact Or.inr ⟨rfl, i, by omega, by omega, c_39, by omega, by omega⟩ | exact Or.inl ⟨rfl, fa_s (h_b.resolve_right (fun z => absurd z.1 (by omega))).2 (fun q => by first | exact c_39 q.1 | (have q2 := q.2.1; have q3 := q.2.2; omega))⟩⟩) (by omega) ls (lv_sub hl [3, 4, 5, 6, 1, 0] rfl)
    · refine lv_aload_n (pc := 31) hx hb dX8_isAwayIn_31 rfl (lv_at hl 1 rfl) ?_
      refine lv_iload (pc := 32) hx hb dX8_isAwayIn_32 (lv_at hl 6 rfl) ?_
      refine lv_iconst (pc := 34) (v := zI 0) hx hb dX8_isAwayIn_34 rfl ?_
      refine zr_vi (pc := 35) (As := [.int (zI ((i : Int))), .int (zI (0))]) (rest := []) S (ct_X8_ofHire l D cI cT am μ g hg hI ((i : Int)) 0 (by omega) (by omega) (by omega) (by omega)) (cwV 2 hts gX8_isAwayIn_X8_ofHire rfl rfl rfl (by decide +kernel) ⟨Nat.le_of_ble_eq_true rfl, Nat.le_of_ble_eq_true rfl⟩) zs0 hK hP (zr_recv hK (hP 0 (by decide)) rfl) rfl hl.1 rfl (Nat.le_of_ble_eq_true rfl) dX8_isAwayIn_35 ⟨Nat.le_of_ble_eq_true rfl, Nat.le_of_ble_eq_true rfl⟩ (fun r_35 hr_35 => ?_)
      subst hr_35
      refine lv_iload_n (pc := 38) hx hb dX8_isAwayIn_38 rfl (lv_at hl 2 rfl) ?_
      refine zr_icmp_ne (pc := 39) (tgt := 68) hx hb dX8_isAwayIn_39 (by decide) (by omega) (by omega) (fun c_39 => ?_) (fun c_39 => ?_)
      · refine lv_iconst (pc := 68) (v := zI 0) hx hb dX8_isAwayIn_68 rfl ?_
        refine lv_istore (pc := 69) (lv' := [(4, .int (zI (0))), (6, .int (zI (gH g ((i : Int)) 1))), (0, .ref (am 0)), (1, .int (zI (c))), (2, .int (zI (d))), (3, .int (zI (n))), (5, .int (zI ((i : Int))))]) hx hb dX8_isAwayIn_69 hl (by decide) rfl (fun ls hl => ?_)
        refine zr_iinc (pc := 71) (d := ((i : Int)) + 1) (lv' := [(5, .int (zI (((i : Int)) + 1))), (4, .int (zI (0))), (6, .int (zI (gH g ((i : Int)) 1))), (0, .ref (am 0)), (1, .int (zI (c))), (2, .int (zI (d))), (3, .int (zI (n)))]) hx hb dX8_isAwayIn_71 hl (k := 6) rfl rfl (by decide) rfl (fun ls hl => ?_)
        refine lv_goto (pc := 74) (tgt := 6) hx hb dX8_isAwayIn_74 (by decide) ?_
        exact ih_6 (i + 1) (0) (⟨by omega, by first | exact Or.inr ⟨rfl, (h_b.resolve_left (fun z => c_28 z.1)).2.imp (fun b q => ⟨q.1, by omega, q.2.2⟩)⟩ | exact Or.inr ⟨rfl, i, by omega, by omega, c_39, by omega, by omega⟩ | exact Or.inl ⟨rfl, fa_s (h_b.resolve_right (fun z => absurd z.1 (by omega))).2 (fun q => by first | exact c_39 q.1 | (have q2 := q.2.1; have q3 := q.2.2; omega))⟩⟩) (by omega) ls (lv_sub hl [3, 4, 5, 6, 1, 0] rfl)
      · refine lv_iload_n (pc := 42) hx hb dX8_isAwayIn_42 rfl (lv_at hl 3 rfl) ?_
        refine lv_iload (pc := 43) hx hb dX8_isAwayIn_43 (lv_at hl 0 rfl) ?_
        refine lv_aload_n (pc := 45) hx hb dX8_isAwayIn_45 rfl (lv_at hl 1 rfl) ?_
        refine lv_iload (pc := 46) hx hb dX8_isAwayIn_46 (lv_at hl 6 rfl) ?_
        refine lv_iconst (pc := 48) (v := zI 2) hx hb dX8_isAwayIn_48 rfl ?_
        refine zr_vi (pc := 49) (As := [.int (zI ((i : Int))), .int (zI (2))]) (rest := [.int (zI (gH g ((i : Int)) 1)), .int (zI (d))]) S (ct_X8_ofHire l D cI cT am μ g hg hI ((i : Int)) 2 (by omega) (by omega) (by omega) (by omega)) (cwV 2 hts gX8_isAwayIn_X8_ofHire rfl rfl rfl (by decide +kernel) ⟨Nat.le_of_ble_eq_true rfl, Nat.le_of_ble_eq_true rfl⟩) zs0 hK hP (zr_recv hK (hP 0 (by decide)) rfl) rfl hl.1 rfl (Nat.le_of_ble_eq_true rfl) dX8_isAwayIn_49 ⟨Nat.le_of_ble_eq_true rfl, Nat.le_of_ble_eq_true rfl⟩ (fun r_49 hr_49 => ?_)
        subst hr_49
        refine zr_iadd (pc := 52) (d := (gH g ((i : Int)) 1) + (gH g ((i : Int)) 2)) hx hb dX8_isAwayIn_52 rfl ?_
        refine zr_icmp_ge (pc := 53) (tgt := 68) hx hb dX8_isAwayIn_53 (by decide) (by omega) (by omega) (fun c_53 => ?_) (fun c_53 => ?_)
        · refine lv_iconst (pc := 68) (v := zI 0) hx hb dX8_isAwayIn_68 rfl ?_
          refine lv_istore (pc := 69) (lv' := [(4, .int (zI (0))), (6, .int (zI (gH g ((i : Int)) 1))), (0, .ref (am 0)), (1, .int (zI (c))), (2, .int (zI (d))), (3, .int (zI (n))), (5, .int (zI ((i : Int))))]) hx hb dX8_isAwayIn_69 hl (by decide) rfl (fun ls hl => ?_)
          refine zr_iinc (pc := 71) (d := ((i : Int)) + 1) (lv' := [(5, .int (zI (((i : Int)) + 1))), (4, .int (zI (0))), (6, .int (zI (gH g ((i : Int)) 1))), (0, .ref (am 0)), (1, .int (zI (c))), (2, .int (zI (d))), (3, .int (zI (n)))]) hx hb dX8_isAwayIn_71 hl (k := 6) rfl rfl (by decide) rfl (fun ls hl => ?_)
          refine lv_goto (pc := 74) (tgt := 6) hx hb dX8_isAwayIn_74 (by decide) ?_
          exact ih_6 (i + 1) (0) (⟨by omega, by first | exact Or.inr ⟨rfl, (h_b.resolve_left (fun z => c_28 z.1)).2.imp (fun b q => ⟨q.1, by omega, q.2.2⟩)⟩ | exact Or.inr ⟨rfl, i, by omega, by omega, c_39, by omega, by omega⟩ | exact Or.inl ⟨rfl, fa_s (h_b.resolve_right (fun z => absurd z.1 (by omega))).2 (fun q => by first | exact c_39 q.1 | (have q2 := q.2.1; have q3 := q.2.2; omega))⟩⟩) (by omega) ls (lv_sub hl [3, 4, 5, 6, 1, 0] rfl)
        · refine lv_iload (pc := 56) hx hb dX8_isAwayIn_56 (lv_at hl 0 rfl) ?_
          refine lv_iload_n (pc := 58) hx hb dX8_isAwayIn_58 rfl (lv_at hl 3 rfl) ?_
          refine lv_iload_n (pc := 59) hx hb dX8_isAwayIn_59 rfl (lv_at hl 4 rfl) ?_
          refine zr_iadd (pc := 60) (d := d + n) hx hb dX8_isAwayIn_60 rfl ?_
          refine zr_icmp_ge (pc := 61) (tgt := 68) hx hb dX8_isAwayIn_61 (by decide) (by omega) (by omega) (fun c_61 => ?_) (fun c_61 => ?_)
          · refine lv_iconst (pc := 68) (v := zI 0) hx hb dX8_isAwayIn_68 rfl ?_
            refine lv_istore (pc := 69) (lv' := [(4, .int (zI (0))), (6, .int (zI (gH g ((i : Int)) 1))), (0, .ref (am 0)), (1, .int (zI (c))), (2, .int (zI (d))), (3, .int (zI (n))), (5, .int (zI ((i : Int))))]) hx hb dX8_isAwayIn_69 hl (by decide) rfl (fun ls hl => ?_)
            refine zr_iinc (pc := 71) (d := ((i : Int)) + 1) (lv' := [(5, .int (zI (((i : Int)) + 1))), (4, .int (zI (0))), (6, .int (zI (gH g ((i : Int)) 1))), (0, .ref (am 0)), (1, .int (zI (c))), (2, .int (zI (d))), (3, .int (zI (n)))]) hx hb dX8_isAwayIn_71 hl (k := 6) rfl rfl (by decide) rfl (fun ls hl => ?_)
            refine lv_goto (pc := 74) (tgt := 6) hx hb dX8_isAwayIn_74 (by decide) ?_
            exact ih_6 (i + 1) (0) (⟨by omega, by first | exact Or.inr ⟨rfl, (h_b.resolve_left (fun z => c_28 z.1)).2.imp (fun b q => ⟨q.1, by omega, q.2.2⟩)⟩ | exact Or.inr ⟨rfl, i, by omega, by omega, c_39, by omega, by omega⟩ | exact Or.inl ⟨rfl, fa_s (h_b.resolve_right (fun z => absurd z.1 (by omega))).2 (fun q => by first | exact c_39 q.1 | (have q2 := q.2.1; have q3 := q.2.2; omega))⟩⟩) (by omega) ls (lv_sub hl [3, 4, 5, 6, 1, 0] rfl)
          · refine lv_iconst (pc := 64) (v := zI 1) hx hb dX8_isAwayIn_64 rfl ?_
            refine lv_goto (pc := 65) (tgt := 69) hx hb dX8_isAwayIn_65 (by decide) ?_
            refine lv_istore (pc := 69) (lv' := [(4, .int (zI (1))), (6, .int (zI (gH g ((i : Int)) 1))), (0, .ref (am 0)), (1, .int (zI (c))), (2, .int (zI (d))), (3, .int (zI (n))), (5, .int (zI ((i : Int))))]) hx hb dX8_isAwayIn_69 hl (by decide) rfl (fun ls hl => ?_)
            refine zr_iinc (pc := 71) (d := ((i : Int)) + 1) (lv' := [(5, .int (zI (((i : Int)) + 1))), (4, .int (zI (1))), (6, .int (zI (gH g ((i : Int)) 1))), (0, .ref (am 0)), (1, .int (zI (c))), (2, .int (zI (d))), (3, .int (zI (n)))]) hx hb dX8_isAwayIn_71 hl (k := 6) rfl rfl (by decide) rfl (fun ls hl => ?_)
            refine lv_goto (pc := 74) (tgt := 6) hx hb dX8_isAwayIn_74 (by decide) ?_
            exact ih_6 (i + 1) (1) (⟨by omega, by first | exact Or.inr ⟨rfl, (h_b.resolve_left (fun z => c_28 z.1)).2.imp (fun b q => ⟨q.1, by omega, q.2.2⟩)⟩ | exact Or.inr ⟨rfl, i, by omega, by omega, c_39, by omega, by omega⟩ | exact Or.inl ⟨rfl, fa_s (h_b.resolve_right (fun z => absurd z.1 (by omega))).2 (fun q => by first | exact c_39 q.1 | (have q2 := q.2.1; have q3 := q.2.2; omega))⟩⟩) (by omega) ls (lv_sub hl [3, 4, 5, 6, 1, 0] rfl)
set_option maxHeartbeats 4000000 in
set_option maxRecDepth 100000 in
theorem ct_X8_quickChanges (l : Launch) (D : va_G) (cI cT : ClassId) (am : Nat → Nat) (μ : Nat → Int → Int) (g : Int → Int) (hg : μ 1 = g) (hI : Inv g)   : zMr l yX8_quickChanges wsX8_quickChanges ({ frames := 1, cells := 0, slots := 0, locals := 22 }) D cI cT [.ref (am 0)] (fun _ H => zW D am 5 (mC cI am μ) H) (fun r => r = zI (qcks g)) := by
  refine Met.ofW (cc := cX8_quickChanges) (maxL := 6) (ret := (some .int)) (by decide) rfl ?_
  intro p_ e_ s m_ args below meth c_ s₁ B hml hv
  obtain ⟨rfl, hK, hF⟩ := hv
  have hx := B.exec
  have hb := B.bytes
  have hr := B.returns
  have hts := atoms_spec (ws := wsX8_quickChanges) B.pre
  have hown : s.vm.findClass RX8 = some m_.cls := findClass_of_methodNamed B.named
  have hlocks := B.notSynchronized
  have S : CallFix p_ m_ c_ cX8_quickChanges 6 s _ wsX8_quickChanges RX8 := ⟨hx, hb, hml, hown, hts⟩
  have i_X8 : ∀ w ∈ u_ws RX8 TX8 12, w ∈ wsX8_quickChanges := fun _ h => List.mem_cons_of_mem _ (List.mem_append_right _ h)
  have hP := hF
  have hnA := iv_nA hI
  have hnC := iv_nC hI
  have hl := lv_entry ([.ref (am 0)]) (n := 6) (Nat.le_of_ble_eq_true rfl)
  rw [lg_entry_eq]
  generalize (lg_sl ([.ref (am 0)]) ++ List.replicate (6 - (lg_sl ([.ref (am 0)])).length) Slot.unset).toArray = ls at hl ⊢
  have hl : lv_has ls 6 [(0, .ref (am 0))] := hl
  refine lv_iconst (pc := 0) (v := zI 0) hx hb dX8_quickChanges_0 rfl ?_
  refine lv_istore_n (pc := 1) (lv' := [(1, .int (zI (0))), (0, .ref (am 0))]) hx hb dX8_quickChanges_1 rfl hl (by decide) rfl (fun ls hl => ?_)
  refine lv_iconst (pc := 2) (v := zI 0) hx hb dX8_quickChanges_2 rfl ?_
  refine lv_istore_n (pc := 3) (lv' := [(2, .int (zI (0))), (1, .int (zI (0))), (0, .ref (am 0))]) hx hb dX8_quickChanges_3 rfl hl (by decide) rfl (fun ls hl => ?_)
  refine zr_loop2 (fun (i : Nat) (x : Int) => ((i : Int) ≤ 11) ∧ (x = sm (fun sc => sm (fun a => ti (qck g sc a)) (g 1).toNat) i)) (fun (i : Nat) (x : Int) => (11 : Int).toNat - i) (fun (i : Nat) (x : Int) => [(0, .ref (am 0)), (1, .int (zI (x))), (2, .int (zI ((i : Int))))]) ?_ (0) (0) (⟨by omega, by rw [sm_0]⟩) (lv_sub hl [2, 1, 0] rfl)
  intro i x hinv ih_4 ls hl
  obtain ⟨h_i, h_x⟩ := hinv
  refine lv_iload_n (pc := 4) hx hb dX8_quickChanges_4 rfl (lv_at hl 2 rfl) ?_
  refine lv_iconst (pc := 5) (v := zI 1) hx hb dX8_quickChanges_5 rfl ?_
  refine zr_iadd (pc := 6) (d := ((i : Int)) + 1) hx hb dX8_quickChanges_6 rfl ?_
  refine lv_bipush (pc := 7) (v := zI 12) hx hb dX8_quickChanges_7 zc_bipush_12 ?_
  refine zr_icmp_ge (pc := 9) (tgt := 81) hx hb dX8_quickChanges_9 (by decide) (by omega) (by decide) (fun c_9 => ?_) (fun c_9 => ?_)
  · refine lv_iload_n (pc := 81) hx hb dX8_quickChanges_81 rfl (lv_at hl 1 rfl) ?_
    exact W.iret (v := zI (x)) hx hb hr (fun tz ht hW => ⟨_, rfl, congrArg zI (by rw [h_x, show i = 11 by omega, qcks]), ht⟩) (fun _ h => by cases h) dX8_quickChanges_82
  · refine lv_iconst (pc := 12) (v := zI 0) hx hb dX8_quickChanges_12 rfl ?_
    refine lv_istore_n (pc := 13) (lv' := [(3, .int (zI (0))), (0, .ref (am 0)), (1, .int (zI (x))), (2, .int (zI ((i : Int))))]) hx hb dX8_quickChanges_13 rfl hl (by decide) rfl (fun ls hl => ?_)
    refine zr_loop2 (fun (j : Nat) (y : Int) => ((j : Int) ≤ g 1) ∧ (y = x + sm (fun a => ti (qck g i a)) j)) (fun (j : Nat) (y : Int) => (g 1 : Int).toNat - j) (fun (j : Nat) (y : Int) => [(0, .ref (am 0)), (2, .int (zI ((i : Int)))), (1, .int (zI (y))), (3, .int (zI ((j : Int))))]) ?_ (0) (x) (⟨by omega, by rw [sm_0]; omega⟩) (lv_sub hl [1, 3, 2, 0] rfl)
    intro j y hinv ih_14 ls hl
    obtain ⟨h_j, h_y⟩ := hinv
    refine lv_iload_n (pc := 14) hx hb dX8_quickChanges_14 rfl (lv_at hl 3 rfl) ?_
    refine lv_aload_n (pc := 15) hx hb dX8_quickChanges_15 rfl (lv_at hl 0 rfl) ?_
    refine zr_get (pc := 16) S hK (hP 0 (by decide)) rfl i_X8 1 (by decide) (List.mem_of_getElem? (i := 1) rfl) rfl dX8_quickChanges_16 ?_
    refine lv_iconst (pc := 19) (v := zI 1) hx hb dX8_quickChanges_19 rfl ?_
    refine zr_ald (pc := 20) (n := 572) hx hb (zAr_of (zK_int hK) (hP 1 (by decide))) (by decide) (by decide) (by decide) dX8_quickChanges_20 ?_
    refine zr_top (b := g 1) (congrFun hg _) ?_
    refine zr_icmp_ge (pc := 21) (tgt := 75) hx hb dX8_quickChanges_21 (by decide) (by omega) (by omega) (fun c_21 => ?_) (fun c_21 => ?_)
    · refine zr_iinc (pc := 75) (d := ((i : Int)) + 1) (lv' := [(2, .int (zI (((i : Int)) + 1))), (0, .ref (am 0)), (1, .int (zI (y))), (3, .int (zI ((j : Int))))]) hx hb dX8_quickChanges_75 hl (k := 1) rfl rfl (by decide) rfl (fun ls hl => ?_)
      refine lv_goto (pc := 78) (tgt := 4) hx hb dX8_quickChanges_78 (by decide) ?_
      exact ih_4 (i + 1) (y) (⟨by omega, by rw [sm_s, h_y, h_x, show j = (g 1).toNat by omega]⟩) (by omega) ls (lv_sub hl [1, 2, 0] rfl)
    · refine lv_aload_n (pc := 24) hx hb dX8_quickChanges_24 rfl (lv_at hl 0 rfl) ?_
      refine lv_iload_n (pc := 25) hx hb dX8_quickChanges_25 rfl (lv_at hl 1 rfl) ?_
      refine lv_iload_n (pc := 26) hx hb dX8_quickChanges_26 rfl (lv_at hl 3 rfl) ?_
      refine zr_vi (pc := 27) (As := [.int (zI ((i : Int))), .int (zI ((j : Int)))]) (rest := []) S (ct_X8_worn l D cI cT am μ g hg hI ((i : Int)) ((j : Int)) (by omega) (by omega) (by omega) (by omega)) (cwV 2 hts gX8_quickChanges_X8_worn rfl rfl rfl (by decide +kernel) ⟨Nat.le_of_ble_eq_true rfl, Nat.le_of_ble_eq_true rfl⟩) zs0 hK hP (zr_recv hK (hP 0 (by decide)) rfl) rfl hl.1 rfl (Nat.le_of_ble_eq_true rfl) dX8_quickChanges_27 ⟨Nat.le_of_ble_eq_true rfl, Nat.le_of_ble_eq_true rfl⟩ (fun r_27 hr_27 => ?_)
      subst hr_27
      have hw1 := iv_wo hI (a := (j : Int)) (sc := (i : Int)) (by omega) (by omega) (by omega) (by omega)
      have hw2 := iv_wo hI (a := (j : Int)) (sc := (i : Int) + 1) (by omega) (by omega) (by omega) (by omega)
      refine lv_istore (pc := 30) (lv' := [(4, .int (zI (gW g ((i : Int)) ((j : Int))))), (0, .ref (am 0)), (2, .int (zI ((i : Int)))), (1, .int (zI (y))), (3, .int (zI ((j : Int))))]) hx hb dX8_quickChanges_30 hl (by decide) rfl (fun ls hl => ?_)
      refine lv_aload_n (pc := 32) hx hb dX8_quickChanges_32 rfl (lv_at hl 1 rfl) ?_
      refine lv_iload_n (pc := 33) hx hb dX8_quickChanges_33 rfl (lv_at hl 2 rfl) ?_
      refine lv_iconst (pc := 34) (v := zI 1) hx hb dX8_quickChanges_34 rfl ?_
      refine zr_iadd (pc := 35) (d := ((i : Int)) + 1) hx hb dX8_quickChanges_35 rfl ?_
      refine lv_iload_n (pc := 36) hx hb dX8_quickChanges_36 rfl (lv_at hl 4 rfl) ?_
      refine zr_vi (pc := 37) (As := [.int (zI (((i : Int)) + 1)), .int (zI ((j : Int)))]) (rest := []) S (ct_X8_worn l D cI cT am μ g hg hI (((i : Int)) + 1) ((j : Int)) (by omega) (by omega) (by omega) (by omega)) (cwV 2 hts gX8_quickChanges_X8_worn rfl rfl rfl (by decide +kernel) ⟨Nat.le_of_ble_eq_true rfl, Nat.le_of_ble_eq_true rfl⟩) zs0 hK hP (zr_recv hK (hP 0 (by decide)) rfl) rfl hl.1 rfl (Nat.le_of_ble_eq_true rfl) dX8_quickChanges_37 ⟨Nat.le_of_ble_eq_true rfl, Nat.le_of_ble_eq_true rfl⟩ (fun r_37 hr_37 => ?_)
      subst hr_37
      refine lv_istore (pc := 40) (lv' := [(5, .int (zI (gW g (((i : Int)) + 1) ((j : Int))))), (4, .int (zI (gW g ((i : Int)) ((j : Int))))), (0, .ref (am 0)), (2, .int (zI ((i : Int)))), (1, .int (zI (y))), (3, .int (zI ((j : Int))))]) hx hb dX8_quickChanges_40 hl (by decide) rfl (fun ls hl => ?_)
      refine lv_iload_n (pc := 42) hx hb dX8_quickChanges_42 rfl (lv_at hl 4 rfl) ?_
      refine lv_iload (pc := 43) hx hb dX8_quickChanges_43 (lv_at hl 1 rfl) ?_
      refine lv_iconst (pc := 45) (v := zI (-1)) hx hb dX8_quickChanges_45 rfl ?_
      refine zr_icmp_eq (pc := 46) (tgt := 66) hx hb dX8_quickChanges_46 (by decide) (by omega) (by decide) (fun c_46 => ?_) (fun c_46 => ?_)
      · refine lv_iconst (pc := 66) (v := zI 0) hx hb dX8_quickChanges_66 rfl ?_
        refine zr_iadd (pc := 67) (d := y + 0) hx hb dX8_quickChanges_67 rfl ?_
        refine lv_istore_n (pc := 68) (lv' := [(1, .int (zI (y + 0))), (5, .int (zI (gW g (((i : Int)) + 1) ((j : Int))))), (4, .int (zI (gW g ((i : Int)) ((j : Int))))), (0, .ref (am 0)), (2, .int (zI ((i : Int)))), (3, .int (zI ((j : Int))))]) hx hb dX8_quickChanges_68 rfl hl (by decide) rfl (fun ls hl => ?_)
        refine zr_iinc (pc := 69) (d := ((j : Int)) + 1) (lv' := [(3, .int (zI (((j : Int)) + 1))), (1, .int (zI (y + 0))), (5, .int (zI (gW g (((i : Int)) + 1) ((j : Int))))), (4, .int (zI (gW g ((i : Int)) ((j : Int))))), (0, .ref (am 0)), (2, .int (zI ((i : Int))))]) hx hb dX8_quickChanges_69 hl (k := 5) rfl rfl (by decide) rfl (fun ls hl => ?_)
        refine lv_goto (pc := 72) (tgt := 14) hx hb dX8_quickChanges_72 (by decide) ?_
        exact ih_14 (j + 1) ((y + 0)) (⟨by omega, by first | exact sm_yes h_y ⟨c_46, c_52, c_59⟩ | exact sm_n0 h_y (fun q => by first | exact q.1 c_46 | exact q.2.1 c_52 | exact q.2.2 c_59)⟩) (by omega) ls (lv_sub hl [4, 5, 1, 0] rfl)
      · refine lv_iload (pc := 49) hx hb dX8_quickChanges_49 (lv_at hl 0 rfl) ?_
        refine lv_iconst (pc := 51) (v := zI (-1)) hx hb dX8_quickChanges_51 rfl ?_
        refine zr_icmp_eq (pc := 52) (tgt := 66) hx hb dX8_quickChanges_52 (by decide) (by omega) (by decide) (fun c_52 => ?_) (fun c_52 => ?_)
        · refine lv_iconst (pc := 66) (v := zI 0) hx hb dX8_quickChanges_66 rfl ?_
          refine zr_iadd (pc := 67) (d := y + 0) hx hb dX8_quickChanges_67 rfl ?_
          refine lv_istore_n (pc := 68) (lv' := [(1, .int (zI (y + 0))), (5, .int (zI (gW g (((i : Int)) + 1) ((j : Int))))), (4, .int (zI (gW g ((i : Int)) ((j : Int))))), (0, .ref (am 0)), (2, .int (zI ((i : Int)))), (3, .int (zI ((j : Int))))]) hx hb dX8_quickChanges_68 rfl hl (by decide) rfl (fun ls hl => ?_)
          refine zr_iinc (pc := 69) (d := ((j : Int)) + 1) (lv' := [(3, .int (zI (((j : Int)) + 1))), (1, .int (zI (y + 0))), (5, .int (zI (gW g (((i : Int)) + 1) ((j : Int))))), (4, .int (zI (gW g ((i : Int)) ((j : Int))))), (0, .ref (am 0)), (2, .int (zI ((i : Int))))]) hx hb dX8_quickChanges_69 hl (k := 5) rfl rfl (by decide) rfl (fun ls hl => ?_)
          refine lv_goto (pc := 72) (tgt := 14) hx hb dX8_quickChanges_72 (by decide) ?_
          exact ih_14 (j + 1) ((y + 0)) (⟨by omega, by first | exact sm_yes h_y ⟨c_46, c_52, c_59⟩ | exact sm_n0 h_y (fun q => by first | exact q.1 c_46 | exact q.2.1 c_52 | exact q.2.2 c_59)⟩) (by omega) ls (lv_sub hl [4, 5, 1, 0] rfl)
        · refine lv_iload (pc := 55) hx hb dX8_quickChanges_55 (lv_at hl 1 rfl) ?_
          refine lv_iload (pc := 57) hx hb dX8_quickChanges_57 (lv_at hl 0 rfl) ?_
          refine zr_icmp_eq (pc := 59) (tgt := 66) hx hb dX8_quickChanges_59 (by decide) (by omega) (by omega) (fun c_59 => ?_) (fun c_59 => ?_)
          · refine lv_iconst (pc := 66) (v := zI 0) hx hb dX8_quickChanges_66 rfl ?_
            refine zr_iadd (pc := 67) (d := y + 0) hx hb dX8_quickChanges_67 rfl ?_
            refine lv_istore_n (pc := 68) (lv' := [(1, .int (zI (y + 0))), (5, .int (zI (gW g (((i : Int)) + 1) ((j : Int))))), (4, .int (zI (gW g ((i : Int)) ((j : Int))))), (0, .ref (am 0)), (2, .int (zI ((i : Int)))), (3, .int (zI ((j : Int))))]) hx hb dX8_quickChanges_68 rfl hl (by decide) rfl (fun ls hl => ?_)
            refine zr_iinc (pc := 69) (d := ((j : Int)) + 1) (lv' := [(3, .int (zI (((j : Int)) + 1))), (1, .int (zI (y + 0))), (5, .int (zI (gW g (((i : Int)) + 1) ((j : Int))))), (4, .int (zI (gW g ((i : Int)) ((j : Int))))), (0, .ref (am 0)), (2, .int (zI ((i : Int))))]) hx hb dX8_quickChanges_69 hl (k := 5) rfl rfl (by decide) rfl (fun ls hl => ?_)
            refine lv_goto (pc := 72) (tgt := 14) hx hb dX8_quickChanges_72 (by decide) ?_
            exact ih_14 (j + 1) ((y + 0)) (⟨by omega, by first | exact sm_yes h_y ⟨c_46, c_52, c_59⟩ | exact sm_n0 h_y (fun q => by first | exact q.1 c_46 | exact q.2.1 c_52 | exact q.2.2 c_59)⟩) (by omega) ls (lv_sub hl [4, 5, 1, 0] rfl)
          · refine lv_iconst (pc := 62) (v := zI 1) hx hb dX8_quickChanges_62 rfl ?_
            refine lv_goto (pc := 63) (tgt := 67) hx hb dX8_quickChanges_63 (by decide) ?_
            refine zr_iadd (pc := 67) (d := y + 1) hx hb dX8_quickChanges_67 rfl ?_
            refine lv_istore_n (pc := 68) (lv' := [(1, .int (zI (y + 1))), (5, .int (zI (gW g (((i : Int)) + 1) ((j : Int))))), (4, .int (zI (gW g ((i : Int)) ((j : Int))))), (0, .ref (am 0)), (2, .int (zI ((i : Int)))), (3, .int (zI ((j : Int))))]) hx hb dX8_quickChanges_68 rfl hl (by decide) rfl (fun ls hl => ?_)
            refine zr_iinc (pc := 69) (d := ((j : Int)) + 1) (lv' := [(3, .int (zI (((j : Int)) + 1))), (1, .int (zI (y + 1))), (5, .int (zI (gW g (((i : Int)) + 1) ((j : Int))))), (4, .int (zI (gW g ((i : Int)) ((j : Int))))), (0, .ref (am 0)), (2, .int (zI ((i : Int))))]) hx hb dX8_quickChanges_69 hl (k := 5) rfl rfl (by decide) rfl (fun ls hl => ?_)
            refine lv_goto (pc := 72) (tgt := 14) hx hb dX8_quickChanges_72 (by decide) ?_
            exact ih_14 (j + 1) ((y + 1)) (⟨by omega, by first | exact sm_yes h_y ⟨c_46, c_52, c_59⟩ | exact sm_n0 h_y (fun q => by first | exact q.1 c_46 | exact q.2.1 c_52 | exact q.2.2 c_59)⟩) (by omega) ls (lv_sub hl [4, 5, 1, 0] rfl)
set_option maxHeartbeats 4000000 in
set_option maxRecDepth 100000 in
theorem ct_X8_awayToday (l : Launch) (D : va_G) (cI cT : ClassId) (am : Nat → Nat) (μ : Nat → Int → Int) (g : Int → Int) (hg : μ 1 = g) (hI : Inv g)   : zMr l yX8_awayToday wsX8_awayToday ({ frames := 3, cells := 0, slots := 0, locals := 69 }) D cI cT [.ref (am 0)] (fun _ H => zW D am 5 (mC cI am μ) H) (fun r => r = zI (aset g (g 0).toNat)) := by
  refine Met.ofW (cc := cX8_awayToday) (maxL := 3) (ret := (some .int)) (by decide) rfl ?_
  intro p_ e_ s m_ args below meth c_ s₁ B hml hv
  obtain ⟨rfl, hK, hF⟩ := hv
  have hx := B.exec
  have hb := B.bytes
  have hr := B.returns
  have hts := atoms_spec (ws := wsX8_awayToday) B.pre
  have hown : s.vm.findClass RX8 = some m_.cls := findClass_of_methodNamed B.named
  have hlocks := B.notSynchronized
  have S : CallFix p_ m_ c_ cX8_awayToday 3 s _ wsX8_awayToday RX8 := ⟨hx, hb, hml, hown, hts⟩
  have i_X8 : ∀ w ∈ u_ws RX8 TX8 12, w ∈ wsX8_awayToday := fun _ h => List.mem_cons_of_mem _ (List.mem_append_right _ h)
  have hP := hF
  have hnC := iv_nC hI
  have hl := lv_entry ([.ref (am 0)]) (n := 3) (Nat.le_of_ble_eq_true rfl)
  rw [lg_entry_eq]
  generalize (lg_sl ([.ref (am 0)]) ++ List.replicate (3 - (lg_sl ([.ref (am 0)])).length) Slot.unset).toArray = ls at hl ⊢
  have hl : lv_has ls 3 [(0, .ref (am 0))] := hl
  refine lv_iconst (pc := 0) (v := zI 0) hx hb dX8_awayToday_0 rfl ?_
  refine lv_istore_n (pc := 1) (lv' := [(1, .int (zI (0))), (0, .ref (am 0))]) hx hb dX8_awayToday_1 rfl hl (by decide) rfl (fun ls hl => ?_)
  refine lv_iconst (pc := 2) (v := zI 0) hx hb dX8_awayToday_2 rfl ?_
  refine lv_istore_n (pc := 3) (lv' := [(2, .int (zI (0))), (1, .int (zI (0))), (0, .ref (am 0))]) hx hb dX8_awayToday_3 rfl hl (by decide) rfl (fun ls hl => ?_)
  refine zr_loop2 (fun (i : Nat) (x : Int) => ((i : Int) ≤ g 0) ∧ (x = aset g i)) (fun (i : Nat) (x : Int) => (g 0 : Int).toNat - i) (fun (i : Nat) (x : Int) => [(0, .ref (am 0)), (1, .int (zI (x))), (2, .int (zI ((i : Int))))]) ?_ (0) (0) (⟨by omega, rfl⟩) (lv_sub hl [2, 1, 0] rfl)
  intro i x hinv ih_4 ls hl
  obtain ⟨h_i, h_x⟩ := hinv
  have hbd := aset_bd g i
  refine lv_iload_n (pc := 4) hx hb dX8_awayToday_4 rfl (lv_at hl 2 rfl) ?_
  refine lv_aload_n (pc := 5) hx hb dX8_awayToday_5 rfl (lv_at hl 0 rfl) ?_
  refine zr_get (pc := 6) S hK (hP 0 (by decide)) rfl i_X8 1 (by decide) (List.mem_of_getElem? (i := 1) rfl) rfl dX8_awayToday_6 ?_
  refine lv_iconst (pc := 9) (v := zI 0) hx hb dX8_awayToday_9 rfl ?_
  refine zr_ald (pc := 10) (n := 572) hx hb (zAr_of (zK_int hK) (hP 1 (by decide))) (by decide) (by decide) (by decide) dX8_awayToday_10 ?_
  refine zr_top (b := g 0) (congrFun hg _) ?_
  refine zr_icmp_ge (pc := 11) (tgt := 38) hx hb dX8_awayToday_11 (by decide) (by omega) (by omega) (fun c_11 => ?_) (fun c_11 => ?_)
  · refine lv_iload_n (pc := 38) hx hb dX8_awayToday_38 rfl (lv_at hl 1 rfl) ?_
    exact W.iret (v := zI (x)) hx hb hr (fun tz ht hW => ⟨_, rfl, congrArg zI (by rw [h_x, show i = (g 0).toNat by omega]), ht⟩) (fun _ h => by cases h) dX8_awayToday_39
  · refine lv_iload_n (pc := 14) hx hb dX8_awayToday_14 rfl (lv_at hl 1 rfl) ?_
    refine lv_aload_n (pc := 15) hx hb dX8_awayToday_15 rfl (lv_at hl 0 rfl) ?_
    refine lv_iload_n (pc := 16) hx hb dX8_awayToday_16 rfl (lv_at hl 2 rfl) ?_
    refine zr_vi (pc := 17) (As := [.int (zI ((i : Int)))]) (rest := [.int (zI (x))]) S (ct_X8_isAwayToday l D cI cT am μ g hg hI ((i : Int)) (by omega) (by omega)) (cwV 1 hts gX8_awayToday_X8_isAwayToday rfl rfl rfl (by decide +kernel) ⟨Nat.le_of_ble_eq_true rfl, Nat.le_of_ble_eq_true rfl⟩) zs0 hK hP (zr_recv hK (hP 0 (by decide)) rfl) rfl hl.1 rfl (Nat.le_of_ble_eq_true rfl) dX8_awayToday_17 ⟨Nat.le_of_ble_eq_true rfl, Nat.le_of_ble_eq_true rfl⟩ (fun r_17 hr_17 => ?_)
    rcases hr_17 with ⟨hb_17, rfl⟩ | ⟨hb_17, rfl⟩
    · refine zr_if_eq (pc := 20) (tgt := 29) hx hb dX8_awayToday_20 (by decide) (by decide) (fun z => absurd z (by decide)) (fun _ => ?_)
      refine lv_iconst (pc := 23) (v := zI 1) hx hb dX8_awayToday_23 rfl ?_
      refine lv_iload_n (pc := 24) hx hb dX8_awayToday_24 rfl (lv_at hl 2 rfl) ?_
      refine zr_ishl (pc := 25) (d := pw i) hx hb dX8_awayToday_25 (zi_pw (by omega) (by omega)) ?_
      refine lv_goto (pc := 26) (tgt := 30) hx hb dX8_awayToday_26 (by decide) ?_
      refine zr_ior (pc := 30) (d := x + pw i) hx hb dX8_awayToday_30 (zi_or (by omega) (by omega) (by omega) (by omega)) ?_
      refine lv_istore_n (pc := 31) (lv' := [(1, .int (zI (x + pw i))), (0, .ref (am 0)), (2, .int (zI ((i : Int))))]) hx hb dX8_awayToday_31 rfl hl (by decide) rfl (fun ls hl => ?_)
      refine zr_iinc (pc := 32) (d := ((i : Int)) + 1) (lv' := [(2, .int (zI (((i : Int)) + 1))), (1, .int (zI (x + pw i))), (0, .ref (am 0))]) hx hb dX8_awayToday_32 hl (k := 2) rfl rfl (by decide) rfl (fun ls hl => ?_)
      refine lv_goto (pc := 35) (tgt := 4) hx hb dX8_awayToday_35 (by decide) ?_
      exact ih_4 (i + 1) ((x + pw i)) (⟨by omega, by rw [aset_s]; first | (rw [ti_t hb_17]; omega) | (rw [ti_f hb_17]; omega)⟩) (by omega) ls (lv_sub hl [2, 1, 0] rfl)
    · refine zr_if_eq (pc := 20) (tgt := 29) hx hb dX8_awayToday_20 (by decide) (by decide) (fun _ => ?_) (fun z => absurd z (by decide))
      refine lv_iconst (pc := 29) (v := zI 0) hx hb dX8_awayToday_29 rfl ?_
      refine zr_ior (pc := 30) (d := x) hx hb dX8_awayToday_30 (zi_or0 _) ?_
      refine lv_istore_n (pc := 31) (lv' := [(1, .int (zI (x))), (0, .ref (am 0)), (2, .int (zI ((i : Int))))]) hx hb dX8_awayToday_31 rfl hl (by decide) rfl (fun ls hl => ?_)
      refine zr_iinc (pc := 32) (d := ((i : Int)) + 1) (lv' := [(2, .int (zI (((i : Int)) + 1))), (1, .int (zI (x))), (0, .ref (am 0))]) hx hb dX8_awayToday_32 hl (k := 2) rfl rfl (by decide) rfl (fun ls hl => ?_)
      refine lv_goto (pc := 35) (tgt := 4) hx hb dX8_awayToday_35 (by decide) ?_
      exact ih_4 (i + 1) (x) (⟨by omega, by rw [aset_s]; first | (rw [ti_t hb_17]; omega) | (rw [ti_f hb_17]; omega)⟩) (by omega) ls (lv_sub hl [2, 1, 0] rfl)
set_option maxHeartbeats 4000000 in
set_option maxRecDepth 100000 in
theorem ct_X8_hiresOf (l : Launch) (D : va_G) (cI cT : ClassId) (am : Nat → Nat) (μ : Nat → Int → Int) (g : Int → Int) (hg : μ 1 = g) (hI : Inv g) (c : Int) (c0 : -1 ≤ c) (c1 : c ≤ 100) : zMr l yX8_hiresOf wsX8_hiresOf ({ frames := 1, cells := 0, slots := 0, locals := 22 }) D cI cT [.ref (am 0), .int (zI (c))] (fun _ H => zW D am 5 (mC cI am μ) H) (fun r => r = zI (hrs g c)) := by
  refine Met.ofW (cc := cX8_hiresOf) (maxL := 4) (ret := (some .int)) (by decide) rfl ?_
  intro p_ e_ s m_ args below meth c_ s₁ B hml hv
  obtain ⟨rfl, hK, hF⟩ := hv
  have hx := B.exec
  have hb := B.bytes
  have hr := B.returns
  have hts := atoms_spec (ws := wsX8_hiresOf) B.pre
  have hown : s.vm.findClass RX8 = some m_.cls := findClass_of_methodNamed B.named
  have hlocks := B.notSynchronized
  have S : CallFix p_ m_ c_ cX8_hiresOf 4 s _ wsX8_hiresOf RX8 := ⟨hx, hb, hml, hown, hts⟩
  have i_X8 : ∀ w ∈ u_ws RX8 TX8 12, w ∈ wsX8_hiresOf := fun _ h => List.mem_cons_of_mem _ (List.mem_append_right _ h)
  have hP := hF
  have hnH := iv_nH hI
  have hnC := iv_nC hI
  have hl := lv_entry ([.ref (am 0), .int (zI (c))]) (n := 4) (Nat.le_of_ble_eq_true rfl)
  rw [lg_entry_eq]
  generalize (lg_sl ([.ref (am 0), .int (zI (c))]) ++ List.replicate (4 - (lg_sl ([.ref (am 0), .int (zI (c))])).length) Slot.unset).toArray = ls at hl ⊢
  have hl : lv_has ls 4 [(0, .ref (am 0)), (1, .int (zI (c)))] := hl
  refine lv_iconst (pc := 0) (v := zI 0) hx hb dX8_hiresOf_0 rfl ?_
  refine lv_istore_n (pc := 1) (lv' := [(2, .int (zI (0))), (0, .ref (am 0)), (1, .int (zI (c)))]) hx hb dX8_hiresOf_1 rfl hl (by decide) rfl (fun ls hl => ?_)
  refine lv_iconst (pc := 2) (v := zI 0) hx hb dX8_hiresOf_2 rfl ?_
  refine lv_istore_n (pc := 3) (lv' := [(3, .int (zI (0))), (2, .int (zI (0))), (0, .ref (am 0)), (1, .int (zI (c)))]) hx hb dX8_hiresOf_3 rfl hl (by decide) rfl (fun ls hl => ?_)
  refine zr_loop2 (fun (i : Nat) (x : Int) => ((i : Int) ≤ g 2) ∧ (x = sm (fun h => ti (gH g h 0 = c)) i)) (fun (i : Nat) (x : Int) => (g 2 : Int).toNat - i) (fun (i : Nat) (x : Int) => [(0, .ref (am 0)), (1, .int (zI (c))), (2, .int (zI (x))), (3, .int (zI ((i : Int))))]) ?_ (0) (0) (⟨by omega, by rw [sm_0]⟩) (lv_sub hl [2, 3, 1, 0] rfl)
  intro i x hinv ih_4 ls hl
  obtain ⟨h_i, h_x⟩ := hinv
  refine lv_iload_n (pc := 4) hx hb dX8_hiresOf_4 rfl (lv_at hl 3 rfl) ?_
  refine lv_aload_n (pc := 5) hx hb dX8_hiresOf_5 rfl (lv_at hl 0 rfl) ?_
  refine zr_get (pc := 6) S hK (hP 0 (by decide)) rfl i_X8 1 (by decide) (List.mem_of_getElem? (i := 1) rfl) rfl dX8_hiresOf_6 ?_
  refine lv_iconst (pc := 9) (v := zI 2) hx hb dX8_hiresOf_9 rfl ?_
  refine zr_ald (pc := 10) (n := 572) hx hb (zAr_of (zK_int hK) (hP 1 (by decide))) (by decide) (by decide) (by decide) dX8_hiresOf_10 ?_
  refine zr_top (b := g 2) (congrFun hg _) ?_
  refine zr_icmp_ge (pc := 11) (tgt := 38) hx hb dX8_hiresOf_11 (by decide) (by omega) (by omega) (fun c_11 => ?_) (fun c_11 => ?_)
  · refine lv_iload_n (pc := 38) hx hb dX8_hiresOf_38 rfl (lv_at hl 2 rfl) ?_
    exact W.iret (v := zI (x)) hx hb hr (fun tz ht hW => ⟨_, rfl, congrArg zI (by rw [h_x, show i = (g 2).toNat by omega, hrs]), ht⟩) (fun _ h => by cases h) dX8_hiresOf_39
  · have hh := iv_hi hI (h := (i : Int)) (by omega) (by omega)
    refine lv_iload_n (pc := 14) hx hb dX8_hiresOf_14 rfl (lv_at hl 2 rfl) ?_
    refine lv_aload_n (pc := 15) hx hb dX8_hiresOf_15 rfl (lv_at hl 0 rfl) ?_
    refine lv_iload_n (pc := 16) hx hb dX8_hiresOf_16 rfl (lv_at hl 3 rfl) ?_
    refine lv_iconst (pc := 17) (v := zI 0) hx hb dX8_hiresOf_17 rfl ?_
    refine zr_vi (pc := 18) (As := [.int (zI ((i : Int))), .int (zI (0))]) (rest := [.int (zI (x))]) S (ct_X8_ofHire l D cI cT am μ g hg hI ((i : Int)) 0 (by omega) (by omega) (by omega) (by omega)) (cwV 2 hts gX8_hiresOf_X8_ofHire rfl rfl rfl (by decide +kernel) ⟨Nat.le_of_ble_eq_true rfl, Nat.le_of_ble_eq_true rfl⟩) zs0 hK hP (zr_recv hK (hP 0 (by decide)) rfl) rfl hl.1 rfl (Nat.le_of_ble_eq_true rfl) dX8_hiresOf_18 ⟨Nat.le_of_ble_eq_true rfl, Nat.le_of_ble_eq_true rfl⟩ (fun r_18 hr_18 => ?_)
    subst hr_18
    refine lv_iload_n (pc := 21) hx hb dX8_hiresOf_21 rfl (lv_at hl 1 rfl) ?_
    refine zr_icmp_ne (pc := 22) (tgt := 29) hx hb dX8_hiresOf_22 (by decide) (by omega) (by omega) (fun c_22 => ?_) (fun c_22 => ?_)
    · refine lv_iconst (pc := 29) (v := zI 0) hx hb dX8_hiresOf_29 rfl ?_
      refine zr_iadd (pc := 30) (d := x + 0) hx hb dX8_hiresOf_30 rfl ?_
      refine lv_istore_n (pc := 31) (lv' := [(2, .int (zI (x + 0))), (0, .ref (am 0)), (1, .int (zI (c))), (3, .int (zI ((i : Int))))]) hx hb dX8_hiresOf_31 rfl hl (by decide) rfl (fun ls hl => ?_)
      refine zr_iinc (pc := 32) (d := ((i : Int)) + 1) (lv' := [(3, .int (zI (((i : Int)) + 1))), (2, .int (zI (x + 0))), (0, .ref (am 0)), (1, .int (zI (c)))]) hx hb dX8_hiresOf_32 hl (k := 3) rfl rfl (by decide) rfl (fun ls hl => ?_)
      refine lv_goto (pc := 35) (tgt := 4) hx hb dX8_hiresOf_35 (by decide) ?_
      exact ih_4 (i + 1) ((x + 0)) (⟨by omega, by rw [sm_s]; first | (rw [ti_t c_22]; omega) | (rw [ti_f c_22]; omega)⟩) (by omega) ls (lv_sub hl [2, 3, 1, 0] rfl)
    · refine lv_iconst (pc := 25) (v := zI 1) hx hb dX8_hiresOf_25 rfl ?_
      refine lv_goto (pc := 26) (tgt := 30) hx hb dX8_hiresOf_26 (by decide) ?_
      refine zr_iadd (pc := 30) (d := x + 1) hx hb dX8_hiresOf_30 rfl ?_
      refine lv_istore_n (pc := 31) (lv' := [(2, .int (zI (x + 1))), (0, .ref (am 0)), (1, .int (zI (c))), (3, .int (zI ((i : Int))))]) hx hb dX8_hiresOf_31 rfl hl (by decide) rfl (fun ls hl => ?_)
      refine zr_iinc (pc := 32) (d := ((i : Int)) + 1) (lv' := [(3, .int (zI (((i : Int)) + 1))), (2, .int (zI (x + 1))), (0, .ref (am 0)), (1, .int (zI (c)))]) hx hb dX8_hiresOf_32 hl (k := 3) rfl rfl (by decide) rfl (fun ls hl => ?_)
      refine lv_goto (pc := 35) (tgt := 4) hx hb dX8_hiresOf_35 (by decide) ?_
      exact ih_4 (i + 1) ((x + 1)) (⟨by omega, by rw [sm_s]; first | (rw [ti_t c_22]; omega) | (rw [ti_f c_22]; omega)⟩) (by omega) ls (lv_sub hl [2, 3, 1, 0] rfl)
set_option maxHeartbeats 4000000 in
set_option maxRecDepth 100000 in
theorem ct_X8_isTaken (l : Launch) (D : va_G) (cI cT : ClassId) (am : Nat → Nat) (μ : Nat → Int → Int) (g : Int → Int) (hg : μ 1 = g) (hI : Inv g) (sc : Int) (a : Int) (c : Int) (s0 : -1 ≤ sc) (s1 : sc ≤ 12) (a0 : 0 ≤ a) (a1 : a < g 1) (h0 : 0 ≤ c) (h1 : c < g 0) : zMr l yX8_isTaken wsX8_isTaken ({ frames := 2, cells := 0, slots := 0, locals := 46 }) D cI cT [.ref (am 0), .int (zI (sc)), .int (zI (a)), .int (zI (c))] (fun _ H => zW D am 5 (mC cI am μ) H) (fun r => bz (tkn g sc a c) r) := by
  refine Met.ofW (cc := cX8_isTaken) (maxL := 4) (ret := (some .boolean)) (by decide) rfl ?_
  intro p_ e_ s m_ args below meth c_ s₁ B hml hv
  obtain ⟨rfl, hK, hF⟩ := hv
  have hx := B.exec
  have hb := B.bytes
  have hr := B.returns
  have hts := atoms_spec (ws := wsX8_isTaken) B.pre
  have hown : s.vm.findClass RX8 = some m_.cls := findClass_of_methodNamed B.named
  have hlocks := B.notSynchronized
  have S : CallFix p_ m_ c_ cX8_isTaken 4 s _ wsX8_isTaken RX8 := ⟨hx, hb, hml, hown, hts⟩
  have hP := hF
  have hnC := iv_nC hI
  have hnA := iv_nA hI
  have hl := lv_entry ([.ref (am 0), .int (zI (sc)), .int (zI (a)), .int (zI (c))]) (n := 4) (Nat.le_of_ble_eq_true rfl)
  rw [lg_entry_eq]
  generalize (lg_sl ([.ref (am 0), .int (zI (sc)), .int (zI (a)), .int (zI (c))]) ++ List.replicate (4 - (lg_sl ([.ref (am 0), .int (zI (sc)), .int (zI (a)), .int (zI (c))])).length) Slot.unset).toArray = ls at hl ⊢
  have hl : lv_has ls 4 [(0, .ref (am 0)), (1, .int (zI (sc))), (2, .int (zI (a))), (3, .int (zI (c)))] := hl
  refine lv_iload_n (pc := 0) hx hb dX8_isTaken_0 rfl (lv_at hl 1 rfl) ?_
  refine zr_si (pc := 1) (As := [.int (zI (sc))]) (rest := []) S (ct_X8_isScene l D cI cT sc (by omega)) (va_cwS 1 hts gX8_isTaken_X8_isScene rfl rfl rfl (by decide +kernel) ⟨Nat.le_of_ble_eq_true rfl, Nat.le_of_ble_eq_true rfl⟩) zs0 hK trivial rfl hl.1 rfl (Nat.le_of_ble_eq_true rfl) dX8_isTaken_1 ⟨Nat.le_of_ble_eq_true rfl, Nat.le_of_ble_eq_true rfl⟩ (fun r_1 hr_1 => ?_)
  rcases hr_1 with ⟨hb_1, rfl⟩ | ⟨hb_1, rfl⟩
  · refine zr_if_eq (pc := 4) (tgt := 35) hx hb dX8_isTaken_4 (by decide) (by decide) (fun z => absurd z (by decide)) (fun _ => ?_)
    refine lv_aload_n (pc := 7) hx hb dX8_isTaken_7 rfl (lv_at hl 0 rfl) ?_
    refine lv_iload_n (pc := 8) hx hb dX8_isTaken_8 rfl (lv_at hl 1 rfl) ?_
    refine lv_iload_n (pc := 9) hx hb dX8_isTaken_9 rfl (lv_at hl 3 rfl) ?_
    refine zr_vi (pc := 10) (As := [.int (zI (sc)), .int (zI (c))]) (rest := []) S (ct_X8_wearers l D cI cT am μ g hg hI sc c (by omega) (by omega) (by omega) (by omega)) (cwV 2 hts gX8_isTaken_X8_wearers rfl rfl rfl (by decide +kernel) ⟨Nat.le_of_ble_eq_true rfl, Nat.le_of_ble_eq_true rfl⟩) zs0 hK hP (zr_recv hK (hP 0 (by decide)) rfl) rfl hl.1 rfl (Nat.le_of_ble_eq_true rfl) dX8_isTaken_10 ⟨Nat.le_of_ble_eq_true rfl, Nat.le_of_ble_eq_true rfl⟩ (fun r_10 hr_10 => ?_)
    subst hr_10
    have hw_10 := wrs_bd hI (sc) (c)
    refine lv_aload_n (pc := 13) hx hb dX8_isTaken_13 rfl (lv_at hl 0 rfl) ?_
    refine lv_iload_n (pc := 14) hx hb dX8_isTaken_14 rfl (lv_at hl 1 rfl) ?_
    refine lv_iload_n (pc := 15) hx hb dX8_isTaken_15 rfl (lv_at hl 2 rfl) ?_
    refine zr_vi (pc := 16) (As := [.int (zI (sc)), .int (zI (a))]) (rest := [.int (zI (wrs g sc c))]) S (ct_X8_worn l D cI cT am μ g hg hI sc a (by omega) (by omega) (by omega) (by omega)) (cwV 2 hts gX8_isTaken_X8_worn rfl rfl rfl (by decide +kernel) ⟨Nat.le_of_ble_eq_true rfl, Nat.le_of_ble_eq_true rfl⟩) zs0 hK hP (zr_recv hK (hP 0 (by decide)) rfl) rfl hl.1 rfl (Nat.le_of_ble_eq_true rfl) dX8_isTaken_16 ⟨Nat.le_of_ble_eq_true rfl, Nat.le_of_ble_eq_true rfl⟩ (fun r_16 hr_16 => ?_)
    subst hr_16
    have hwo := iv_wo hI (a := a) (sc := sc) (by omega) (by omega) (by omega) (by omega)
    refine lv_iload_n (pc := 19) hx hb dX8_isTaken_19 rfl (lv_at hl 3 rfl) ?_
    refine zr_icmp_ne (pc := 20) (tgt := 27) hx hb dX8_isTaken_20 (by decide) (by omega) (by omega) (fun c_20 => ?_) (fun c_20 => ?_)
    · refine lv_iconst (pc := 27) (v := zI 0) hx hb dX8_isTaken_27 rfl ?_
      refine zr_icmp_le (pc := 28) (tgt := 35) hx hb dX8_isTaken_28 (by decide) (by omega) (by decide) (fun c_28 => ?_) (fun c_28 => ?_)
      · refine lv_iconst (pc := 35) (v := zI 0) hx hb dX8_isTaken_35 rfl ?_
        exact W.zret (ty := .boolean) (v := zI (0)) hx hb hr (by first | rfl | decide) (fun tz ht hW => ⟨_, rfl, bz_f (fun q => by first | exact hb_1 q.1 | (have q2 := q.2; first | (rw [ti_t c_20] at q2; omega) | (rw [ti_f c_20] at q2; omega))), ht⟩) (fun _ h => by cases h) dX8_isTaken_36
      · refine lv_iconst (pc := 31) (v := zI 1) hx hb dX8_isTaken_31 rfl ?_
        refine lv_goto (pc := 32) (tgt := 36) hx hb dX8_isTaken_32 (by decide) ?_
        exact W.zret (ty := .boolean) (v := zI (1)) hx hb hr (by first | rfl | decide) (fun tz ht hW => ⟨_, rfl, bz_t ⟨hb_1, by first | (rw [ti_t c_20]; omega) | (rw [ti_f c_20]; omega)⟩, ht⟩) (fun _ h => by cases h) dX8_isTaken_36
    · refine lv_iconst (pc := 23) (v := zI 1) hx hb dX8_isTaken_23 rfl ?_
      refine lv_goto (pc := 24) (tgt := 28) hx hb dX8_isTaken_24 (by decide) ?_
      refine zr_icmp_le (pc := 28) (tgt := 35) hx hb dX8_isTaken_28 (by decide) (by omega) (by decide) (fun c_28 => ?_) (fun c_28 => ?_)
      · refine lv_iconst (pc := 35) (v := zI 0) hx hb dX8_isTaken_35 rfl ?_
        exact W.zret (ty := .boolean) (v := zI (0)) hx hb hr (by first | rfl | decide) (fun tz ht hW => ⟨_, rfl, bz_f (fun q => by first | exact hb_1 q.1 | (have q2 := q.2; first | (rw [ti_t c_20] at q2; omega) | (rw [ti_f c_20] at q2; omega))), ht⟩) (fun _ h => by cases h) dX8_isTaken_36
      · refine lv_iconst (pc := 31) (v := zI 1) hx hb dX8_isTaken_31 rfl ?_
        refine lv_goto (pc := 32) (tgt := 36) hx hb dX8_isTaken_32 (by decide) ?_
        exact W.zret (ty := .boolean) (v := zI (1)) hx hb hr (by first | rfl | decide) (fun tz ht hW => ⟨_, rfl, bz_t ⟨hb_1, by first | (rw [ti_t c_20]; omega) | (rw [ti_f c_20]; omega)⟩, ht⟩) (fun _ h => by cases h) dX8_isTaken_36
  · refine zr_if_eq (pc := 4) (tgt := 35) hx hb dX8_isTaken_4 (by decide) (by decide) (fun _ => ?_) (fun z => absurd z (by decide))
    refine lv_iconst (pc := 35) (v := zI 0) hx hb dX8_isTaken_35 rfl ?_
    exact W.zret (ty := .boolean) (v := zI (0)) hx hb hr (by first | rfl | decide) (fun tz ht hW => ⟨_, rfl, bz_f (fun q => by first | exact hb_1 q.1 | (have q2 := q.2; first | (rw [ti_t c_20] at q2; omega) | (rw [ti_f c_20] at q2; omega))), ht⟩) (fun _ h => by cases h) dX8_isTaken_36
set_option maxHeartbeats 4000000 in
set_option maxRecDepth 100000 in
theorem ct_X8_leastOf (l : Launch) (D : va_G) (cI cT : ClassId) (am : Nat → Nat) (μ : Nat → Int → Int) (g : Int → Int) (hg : μ 1 = g) (hI : Inv g) (c : Int) (a : Int) (h0 : 0 ≤ c) (h1 : c < g 0) (a0 : 0 ≤ a) (a1 : a < g 1) : zMr l yX8_leastOf wsX8_leastOf ({ frames := 3, cells := 0, slots := 0, locals := 72 }) D cI cT [.ref (am 0), .int (zI (c)), .int (zI (a))] (fun _ H => zW D am 5 (mC cI am μ) H) (fun r => r = zI (lst g c a)) := by
  refine Met.ofW (cc := cX8_leastOf) (maxL := 7) (ret := (some .int)) (by decide) rfl ?_
  intro p_ e_ s m_ args below meth c_ s₁ B hml hv
  obtain ⟨rfl, hK, hF⟩ := hv
  have hx := B.exec
  have hb := B.bytes
  have hr := B.returns
  have hts := atoms_spec (ws := wsX8_leastOf) B.pre
  have hown : s.vm.findClass RX8 = some m_.cls := findClass_of_methodNamed B.named
  have hlocks := B.notSynchronized
  have S : CallFix p_ m_ c_ cX8_leastOf 7 s _ wsX8_leastOf RX8 := ⟨hx, hb, hml, hown, hts⟩
  have hP := hF
  have hnC := iv_nC hI
  have hnA := iv_nA hI
  have hna := iv_na hI h0 h1
  have hl := lv_entry ([.ref (am 0), .int (zI (c)), .int (zI (a))]) (n := 7) (Nat.le_of_ble_eq_true rfl)
  rw [lg_entry_eq]
  generalize (lg_sl ([.ref (am 0), .int (zI (c)), .int (zI (a))]) ++ List.replicate (7 - (lg_sl ([.ref (am 0), .int (zI (c)), .int (zI (a))])).length) Slot.unset).toArray = ls at hl ⊢
  have hl : lv_has ls 7 [(0, .ref (am 0)), (1, .int (zI (c))), (2, .int (zI (a)))] := hl
  refine lv_iconst (pc := 0) (v := zI 0) hx hb dX8_leastOf_0 rfl ?_
  refine lv_istore_n (pc := 1) (lv' := [(3, .int (zI (0))), (0, .ref (am 0)), (1, .int (zI (c))), (2, .int (zI (a)))]) hx hb dX8_leastOf_1 rfl hl (by decide) rfl (fun ls hl => ?_)
  refine lv_iconst (pc := 2) (v := zI 0) hx hb dX8_leastOf_2 rfl ?_
  refine lv_istore (pc := 3) (lv' := [(4, .int (zI (0))), (3, .int (zI (0))), (0, .ref (am 0)), (1, .int (zI (c))), (2, .int (zI (a)))]) hx hb dX8_leastOf_3 hl (by decide) rfl (fun ls hl => ?_)
  refine lv_iconst (pc := 5) (v := zI 0) hx hb dX8_leastOf_5 rfl ?_
  refine lv_istore (pc := 6) (lv' := [(5, .int (zI (0))), (4, .int (zI (0))), (3, .int (zI (0))), (0, .ref (am 0)), (1, .int (zI (c))), (2, .int (zI (a)))]) hx hb dX8_leastOf_6 hl (by decide) rfl (fun ls hl => ?_)
  refine zr_loop3 (fun (i : Nat) (x : Int) (n : Int) => ((i : Int) ≤ 3) ∧ (x = sm (fun m => zabs (lack g c a m)) i) ∧ (n = need g c a i) ∧ (∀ b : Int, 0 ≤ b → b < (i : Int) → ¬ bad g c a b)) (fun (i : Nat) (x : Int) (n : Int) => (3 : Int).toNat - i) (fun (i : Nat) (x : Int) (n : Int) => [(0, .ref (am 0)), (1, .int (zI (c))), (2, .int (zI (a))), (3, .int (zI (x))), (4, .int (zI (n))), (5, .int (zI ((i : Int))))]) ?_ (0) (0) (0) (⟨by omega, by rw [sm_0], by rw [need_0], fa_0⟩) (lv_sub hl [3, 4, 5, 2, 1, 0] rfl)
  intro i x n hinv ih_8 ls hl
  obtain ⟨h_i, h_x, h_n, h_b⟩ := hinv
  have hnb := need_bd g c a i
  refine lv_iload (pc := 8) hx hb dX8_leastOf_8 (lv_at hl 5 rfl) ?_
  refine lv_iconst (pc := 10) (v := zI 3) hx hb dX8_leastOf_10 rfl ?_
  refine zr_icmp_ge (pc := 11) (tgt := 86) hx hb dX8_leastOf_11 (by decide) (by omega) (by decide) (fun c_11 => ?_) (fun c_11 => ?_)
  · refine lv_iload (pc := 86) hx hb dX8_leastOf_86 (lv_at hl 4 rfl) ?_
    refine lv_bipush (pc := 88) (v := zI 6) hx hb dX8_leastOf_88 zc_bipush_6 ?_
    refine lv_aload_n (pc := 90) hx hb dX8_leastOf_90 rfl (lv_at hl 0 rfl) ?_
    refine lv_iload_n (pc := 91) hx hb dX8_leastOf_91 rfl (lv_at hl 1 rfl) ?_
    refine lv_bipush (pc := 92) (v := zI 7) hx hb dX8_leastOf_92 zc_bipush_7 ?_
    refine zr_vi (pc := 94) (As := [.int (zI (c)), .int (zI (7))]) (rest := [.int (zI (6)), .int (zI (n))]) S (ct_X8_of l D cI cT am μ g hg hI c 7 (by omega) (by omega) (by omega) (by omega)) (cwV 2 hts gX8_leastOf_X8_of rfl rfl rfl (by decide +kernel) ⟨Nat.le_of_ble_eq_true rfl, Nat.le_of_ble_eq_true rfl⟩) zs0 hK hP (zr_recv hK (hP 0 (by decide)) rfl) rfl hl.1 rfl (Nat.le_of_ble_eq_true rfl) dX8_leastOf_94 ⟨Nat.le_of_ble_eq_true rfl, Nat.le_of_ble_eq_true rfl⟩ (fun r_94 hr_94 => ?_)
    subst hr_94
    refine zr_isub (pc := 97) (d := 6 - (gC g c 7)) hx hb dX8_leastOf_97 rfl ?_
    refine zr_icmp_le (pc := 98) (tgt := 107) hx hb dX8_leastOf_98 (by decide) (by omega) (by omega) (fun c_98 => ?_) (fun c_98 => ?_)
    · refine lv_iload_n (pc := 107) hx hb dX8_leastOf_107 rfl (lv_at hl 3 rfl) ?_
      exact W.iret (v := zI (x)) hx hb hr (fun tz ht hW => ⟨_, rfl, congrArg zI (by have e3 : i = 3 := (by omega); subst e3; rw [lst, tif_t ⟨fun m m0 m1 => h_b m m0 (by omega), by omega⟩, h_x, mis]), ht⟩) (fun _ h => by cases h) dX8_leastOf_108
    · refine lv_sipush (pc := 101) (v := zI (-2009)) hx hb dX8_leastOf_101 zc_sipush_m2009 ?_
      refine lv_goto (pc := 104) (tgt := 108) hx hb dX8_leastOf_104 (by decide) ?_
      exact W.iret (v := zI ((-2009))) hx hb hr (fun tz ht hW => ⟨_, rfl, congrArg zI (by rw [lst, tif_f (fun q => by have q2 := q.2; rw [show i = 3 by omega] at h_n; omega)]), ht⟩) (fun _ h => by cases h) dX8_leastOf_108
  · refine lv_aload_n (pc := 14) hx hb dX8_leastOf_14 rfl (lv_at hl 0 rfl) ?_
    refine lv_iload_n (pc := 15) hx hb dX8_leastOf_15 rfl (lv_at hl 1 rfl) ?_
    refine lv_iload_n (pc := 16) hx hb dX8_leastOf_16 rfl (lv_at hl 2 rfl) ?_
    refine lv_iload (pc := 17) hx hb dX8_leastOf_17 (lv_at hl 5 rfl) ?_
    refine zr_vi (pc := 19) (As := [.int (zI (c)), .int (zI (a)), .int (zI ((i : Int)))]) (rest := []) S (ct_X8_wantedOf l D cI cT am μ g hg hI c a ((i : Int)) (by omega) (by omega) (by omega) (by omega) (by omega) (by omega)) (cwV 3 hts gX8_leastOf_X8_wantedOf rfl rfl rfl (by decide +kernel) ⟨Nat.le_of_ble_eq_true rfl, Nat.le_of_ble_eq_true rfl⟩) zs0 hK hP (zr_recv hK (hP 0 (by decide)) rfl) rfl hl.1 rfl (Nat.le_of_ble_eq_true rfl) dX8_leastOf_19 ⟨Nat.le_of_ble_eq_true rfl, Nat.le_of_ble_eq_true rfl⟩ (fun r_19 hr_19 => ?_)
    subst hr_19
    have hl_19 := lack_bd hI (c := c) (a := a) (m := ((i : Int))) (by omega) (by omega) (by omega) (by omega) (by omega) (by omega)
    have hpq_19 := pres_bd hI (c := c) (m := ((i : Int))) (by omega) (by omega) (by omega) (by omega)
    have hz_19 := zabs_bd hl_19
    refine lv_aload_n (pc := 22) hx hb dX8_leastOf_22 rfl (lv_at hl 0 rfl) ?_
    refine lv_iload_n (pc := 23) hx hb dX8_leastOf_23 rfl (lv_at hl 1 rfl) ?_
    refine lv_iload (pc := 24) hx hb dX8_leastOf_24 (lv_at hl 5 rfl) ?_
    refine zr_vi (pc := 26) (As := [.int (zI (c)), .int (zI ((i : Int)))]) (rest := [.int (zI (pres g c ((i : Int)) + lack g c a ((i : Int))))]) S (ct_X8_present l D cI cT am μ g hg hI c ((i : Int)) (by omega) (by omega) (by omega) (by omega)) (cwV 2 hts gX8_leastOf_X8_present rfl rfl rfl (by decide +kernel) ⟨Nat.le_of_ble_eq_true rfl, Nat.le_of_ble_eq_true rfl⟩) zs0 hK hP (zr_recv hK (hP 0 (by decide)) rfl) rfl hl.1 rfl (Nat.le_of_ble_eq_true rfl) dX8_leastOf_26 ⟨Nat.le_of_ble_eq_true rfl, Nat.le_of_ble_eq_true rfl⟩ (fun r_26 hr_26 => ?_)
    subst hr_26
    have hp_26 := pres_bd hI (c := c) (m := ((i : Int))) (by omega) (by omega) (by omega) (by omega)
    refine zr_isub (pc := 29) (d := lack g c a i) hx hb dX8_leastOf_29 (by omega) ?_
    refine lv_istore (pc := 30) (lv' := [(6, .int (zI (lack g c a i))), (0, .ref (am 0)), (1, .int (zI (c))), (2, .int (zI (a))), (3, .int (zI (x))), (4, .int (zI (n))), (5, .int (zI ((i : Int))))]) hx hb dX8_leastOf_30 hl (by decide) rfl (fun ls hl => ?_)
    refine lv_iload (pc := 32) hx hb dX8_leastOf_32 (lv_at hl 0 rfl) ?_
    refine zr_if_eq (pc := 34) (tgt := 80) hx hb dX8_leastOf_34 (by decide) (by omega) (fun c_34 => ?_) (fun c_34 => ?_)
    · refine zr_iinc (pc := 80) (d := ((i : Int)) + 1) (lv' := [(5, .int (zI (((i : Int)) + 1))), (6, .int (zI (lack g c a i))), (0, .ref (am 0)), (1, .int (zI (c))), (2, .int (zI (a))), (3, .int (zI (x))), (4, .int (zI (n)))]) hx hb dX8_leastOf_80 hl (k := 6) rfl rfl (by decide) rfl (fun ls hl => ?_)
      refine lv_goto (pc := 83) (tgt := 8) hx hb dX8_leastOf_83 (by decide) ?_
      exact ih_8 (i + 1) (x) (n) (⟨by omega, by rw [sm_s]; first | omega | (rw [c_34, zabs_0]; omega), by rw [need_s]; first | (rw [ti_t c_34]; omega) | (rw [ti_f (fun q => q c_34)]; omega), fa_s h_b (fun q => by first | exact q.1 c_34 | exact q.2.elim (fun z => by have := (zabs_le (lack g c a i) 10).mpr hb_46; omega) (fun z => z hb_58))⟩) (by omega) ls (lv_sub hl [2, 3, 4, 5, 6, 0] rfl)
    · refine lv_iload (pc := 37) hx hb dX8_leastOf_37 (lv_at hl 0 rfl) ?_
      refine zr_i2l (pc := 39) hx hb dX8_leastOf_39 (by omega) ?_
      refine zr_ldc2 (pc := 40) (w := (-10)) hx hb hown (hts _ (List.mem_of_getElem? (i := 1) rfl)) dX8_leastOf_40 (by decide +kernel) ?_
      refine zr_ldc2 (pc := 43) (w := 10) hx hb hown (hts _ (List.mem_of_getElem? (i := 2) rfl)) dX8_leastOf_43 (by decide +kernel) ?_
      refine zr_si (pc := 46) (As := [.long (zL (lack g c a i)), .long (zL ((-10))), .long (zL (10))]) (rest := []) S (ct_X8_in l D cI cT (lack g c a i) ((-10)) 10 (by omega) (by decide) (by decide)) (va_cwS 3 hts gX8_leastOf_X8_in rfl rfl rfl (by decide +kernel) ⟨Nat.le_of_ble_eq_true rfl, Nat.le_of_ble_eq_true rfl⟩) zs0 hK trivial rfl hl.1 rfl (Nat.le_of_ble_eq_true rfl) dX8_leastOf_46 ⟨Nat.le_of_ble_eq_true rfl, Nat.le_of_ble_eq_true rfl⟩ (fun r_46 hr_46 => ?_)
      rcases hr_46 with ⟨hb_46, rfl⟩ | ⟨hb_46, rfl⟩
      · refine zr_if_eq (pc := 49) (tgt := 64) hx hb dX8_leastOf_49 (by decide) (by decide) (fun z => absurd z (by decide)) (fun _ => ?_)
        refine lv_aload_n (pc := 52) hx hb dX8_leastOf_52 rfl (lv_at hl 1 rfl) ?_
        refine lv_iload_n (pc := 53) hx hb dX8_leastOf_53 rfl (lv_at hl 2 rfl) ?_
        refine lv_iload (pc := 54) hx hb dX8_leastOf_54 (lv_at hl 6 rfl) ?_
        refine lv_iload (pc := 56) hx hb dX8_leastOf_56 (lv_at hl 0 rfl) ?_
        refine zr_vi (pc := 58) (As := [.int (zI (c)), .int (zI ((i : Int))), .int (zI (lack g c a i))]) (rest := []) S (ct_X8_isAllowed l D cI cT am μ g hg hI c ((i : Int)) (lack g c a i) (by omega) (by omega) (by omega) (by omega) (by omega) (by omega)) (cwV 3 hts gX8_leastOf_X8_isAllowed rfl rfl rfl (by decide +kernel) ⟨Nat.le_of_ble_eq_true rfl, Nat.le_of_ble_eq_true rfl⟩) zs0 hK hP (zr_recv hK (hP 0 (by decide)) rfl) rfl hl.1 rfl (Nat.le_of_ble_eq_true rfl) dX8_leastOf_58 ⟨Nat.le_of_ble_eq_true rfl, Nat.le_of_ble_eq_true rfl⟩ (fun r_58 hr_58 => ?_)
        rcases hr_58 with ⟨hb_58, rfl⟩ | ⟨hb_58, rfl⟩
        · refine zr_if_ne (pc := 61) (tgt := 68) hx hb dX8_leastOf_61 (by decide) (by decide) (fun _ => ?_) (fun z => absurd z (by decide))
          refine zr_iinc (pc := 68) (d := n + 1) (lv' := [(4, .int (zI (n + 1))), (6, .int (zI (lack g c a i))), (0, .ref (am 0)), (1, .int (zI (c))), (2, .int (zI (a))), (3, .int (zI (x))), (5, .int (zI ((i : Int))))]) hx hb dX8_leastOf_68 hl (k := 5) rfl rfl (by decide) rfl (fun ls hl => ?_)
          refine lv_iload_n (pc := 71) hx hb dX8_leastOf_71 rfl (lv_at hl 5 rfl) ?_
          refine lv_iload (pc := 72) hx hb dX8_leastOf_72 (lv_at hl 1 rfl) ?_
          refine lv_iconst (pc := 74) (v := zI 0) hx hb dX8_leastOf_74 rfl ?_
          refine zr_si (pc := 75) (As := [.int (zI (lack g c a i)), .int (zI (0))]) (rest := [.int (zI (x))]) S (ct_X8_distance l D cI cT (lack g c a i) 0 (by omega) (by decide)) (va_cwS 2 hts gX8_leastOf_X8_distance rfl rfl rfl (by decide +kernel) ⟨Nat.le_of_ble_eq_true rfl, Nat.le_of_ble_eq_true rfl⟩) zs0 hK trivial rfl hl.1 rfl (Nat.le_of_ble_eq_true rfl) dX8_leastOf_75 ⟨Nat.le_of_ble_eq_true rfl, Nat.le_of_ble_eq_true rfl⟩ (fun r_75 hr_75 => ?_)
          subst hr_75
          have hz_75 := zabs_nn ((lack g c a i) - 0)
          have e78 : zabs (lack g c a i - 0) = zabs (lack g c a i) := congrArg zabs (by omega)
          refine zr_iadd (pc := 78) (d := x + (zabs ((lack g c a i) - 0))) hx hb dX8_leastOf_78 rfl ?_
          refine lv_istore_n (pc := 79) (lv' := [(3, .int (zI (x + (zabs ((lack g c a i) - 0))))), (4, .int (zI (n + 1))), (6, .int (zI (lack g c a i))), (0, .ref (am 0)), (1, .int (zI (c))), (2, .int (zI (a))), (5, .int (zI ((i : Int))))]) hx hb dX8_leastOf_79 rfl hl (by decide) rfl (fun ls hl => ?_)
          refine zr_iinc (pc := 80) (d := ((i : Int)) + 1) (lv' := [(5, .int (zI (((i : Int)) + 1))), (3, .int (zI (x + (zabs ((lack g c a i) - 0))))), (4, .int (zI (n + 1))), (6, .int (zI (lack g c a i))), (0, .ref (am 0)), (1, .int (zI (c))), (2, .int (zI (a)))]) hx hb dX8_leastOf_80 hl (k := 6) rfl rfl (by decide) rfl (fun ls hl => ?_)
          refine lv_goto (pc := 83) (tgt := 8) hx hb dX8_leastOf_83 (by decide) ?_
          exact ih_8 (i + 1) ((x + (zabs ((lack g c a i) - 0)))) ((n + 1)) (⟨by omega, by rw [sm_s]; first | omega | (rw [c_34, zabs_0]; omega), by rw [need_s]; first | (rw [ti_t c_34]; omega) | (rw [ti_f (fun q => q c_34)]; omega), fa_s h_b (fun q => by first | exact q.1 c_34 | exact q.2.elim (fun z => by have := (zabs_le (lack g c a i) 10).mpr hb_46; omega) (fun z => z hb_58))⟩) (by omega) ls (lv_sub hl [4, 5, 6, 1, 2, 0] rfl)
        · refine zr_if_ne (pc := 61) (tgt := 68) hx hb dX8_leastOf_61 (by decide) (by decide) (fun z => absurd z (by decide)) (fun _ => ?_)
          refine lv_sipush (pc := 64) (v := zI (-2009)) hx hb dX8_leastOf_64 zc_sipush_m2009 ?_
          exact W.iret (v := zI ((-2009))) hx hb hr (fun tz ht hW => ⟨_, rfl, congrArg zI (by rw [lst, tif_f (fun q => by first | exact q.1 i (by omega) (by omega) ⟨c_34, Or.inr hb_58⟩ | exact q.1 i (by omega) (by omega) ⟨c_34, Or.inl (by have := (zabs_le (lack g c a i) 10).mp; omega)⟩)]), ht⟩) (fun _ h => by cases h) dX8_leastOf_67
      · refine zr_if_eq (pc := 49) (tgt := 64) hx hb dX8_leastOf_49 (by decide) (by decide) (fun _ => ?_) (fun z => absurd z (by decide))
        refine lv_sipush (pc := 64) (v := zI (-2009)) hx hb dX8_leastOf_64 zc_sipush_m2009 ?_
        exact W.iret (v := zI ((-2009))) hx hb hr (fun tz ht hW => ⟨_, rfl, congrArg zI (by rw [lst, tif_f (fun q => by first | exact q.1 i (by omega) (by omega) ⟨c_34, Or.inr hb_58⟩ | exact q.1 i (by omega) (by omega) ⟨c_34, Or.inl (by have := (zabs_le (lack g c a i) 10).mp; omega)⟩)]), ht⟩) (fun _ h => by cases h) dX8_leastOf_67
set_option maxHeartbeats 4000000 in
set_option maxRecDepth 100000 in
theorem ct_X8_isLoadAllowed (l : Launch) (D : va_G) (cI cT : ClassId) (am : Nat → Nat) (μ : Nat → Int → Int) (g : Int → Int) (hg : μ 1 = g) (hI : Inv g) (p : Int) (ld : Int) (p0 : 0 ≤ p) (p1 : p ≤ 3) (l0 : 0 ≤ ld) (l1 : ld ≤ 65535) : zMr l yX8_isLoadAllowed wsX8_isLoadAllowed ({ frames := 3, cells := 0, slots := 0, locals := 69 }) D cI cT [.ref (am 0), .int (zI (p)), .int (zI (ld))] (fun _ H => zW D am 5 (mC cI am μ) H) (fun r => bz (ldP g p ld) r) := by
  refine Met.ofW (cc := cX8_isLoadAllowed) (maxL := 7) (ret := (some .boolean)) (by decide) rfl ?_
  intro p_ e_ s m_ args below meth c_ s₁ B hml hv
  obtain ⟨rfl, hK, hF⟩ := hv
  have hx := B.exec
  have hb := B.bytes
  have hr := B.returns
  have hts := atoms_spec (ws := wsX8_isLoadAllowed) B.pre
  have hown : s.vm.findClass RX8 = some m_.cls := findClass_of_methodNamed B.named
  have hlocks := B.notSynchronized
  have S : CallFix p_ m_ c_ cX8_isLoadAllowed 7 s _ wsX8_isLoadAllowed RX8 := ⟨hx, hb, hml, hown, hts⟩
  have i_X8 : ∀ w ∈ u_ws RX8 TX8 12, w ∈ wsX8_isLoadAllowed := fun _ h => List.mem_cons_of_mem _ (List.mem_append_right _ h)
  have hP := hF
  have hnC := iv_nC hI
  have hl := lv_entry ([.ref (am 0), .int (zI (p)), .int (zI (ld))]) (n := 7) (Nat.le_of_ble_eq_true rfl)
  rw [lg_entry_eq]
  generalize (lg_sl ([.ref (am 0), .int (zI (p)), .int (zI (ld))]) ++ List.replicate (7 - (lg_sl ([.ref (am 0), .int (zI (p)), .int (zI (ld))])).length) Slot.unset).toArray = ls at hl ⊢
  have hl : lv_has ls 7 [(0, .ref (am 0)), (1, .int (zI (p))), (2, .int (zI (ld)))] := hl
  refine lv_iconst (pc := 0) (v := zI 0) hx hb dX8_isLoadAllowed_0 rfl ?_
  refine lv_istore_n (pc := 1) (lv' := [(3, .int (zI (0))), (0, .ref (am 0)), (1, .int (zI (p))), (2, .int (zI (ld)))]) hx hb dX8_isLoadAllowed_1 rfl hl (by decide) rfl (fun ls hl => ?_)
  refine lv_iconst (pc := 2) (v := zI 0) hx hb dX8_isLoadAllowed_2 rfl ?_
  refine lv_istore (pc := 3) (lv' := [(4, .int (zI (0))), (3, .int (zI (0))), (0, .ref (am 0)), (1, .int (zI (p))), (2, .int (zI (ld)))]) hx hb dX8_isLoadAllowed_3 hl (by decide) rfl (fun ls hl => ?_)
  refine lv_iconst (pc := 5) (v := zI 1) hx hb dX8_isLoadAllowed_5 rfl ?_
  refine lv_istore (pc := 6) (lv' := [(5, .int (zI (1))), (4, .int (zI (0))), (3, .int (zI (0))), (0, .ref (am 0)), (1, .int (zI (p))), (2, .int (zI (ld)))]) hx hb dX8_isLoadAllowed_6 hl (by decide) rfl (fun ls hl => ?_)
  refine lv_iconst (pc := 8) (v := zI 0) hx hb dX8_isLoadAllowed_8 rfl ?_
  refine lv_istore (pc := 9) (lv' := [(6, .int (zI (0))), (5, .int (zI (1))), (4, .int (zI (0))), (3, .int (zI (0))), (0, .ref (am 0)), (1, .int (zI (p))), (2, .int (zI (ld)))]) hx hb dX8_isLoadAllowed_9 hl (by decide) rfl (fun ls hl => ?_)
  refine zr_loop4 (fun (i : Nat) (x : Int) (y : Int) (z : Int) => ((i : Int) ≤ g 0) ∧ (x = sm (fun k => ti (bit ld k)) i) ∧ (y = colS g ld i) ∧ ((z = 1 ∧ ∀ b : Int, 0 ≤ b → b < (i : Int) → bit ld b → ¬ awy g b (g 3) 1 ∧ cwP (gC g b 4) p) ∨ (z = 0 ∧ ¬ ∀ b : Int, 0 ≤ b → b < (i : Int) → bit ld b → ¬ awy g b (g 3) 1 ∧ cwP (gC g b 4) p))) (fun (i : Nat) (x : Int) (y : Int) (z : Int) => (g 0 : Int).toNat - i) (fun (i : Nat) (x : Int) (y : Int) (z : Int) => [(0, .ref (am 0)), (1, .int (zI (p))), (2, .int (zI (ld))), (3, .int (zI (x))), (4, .int (zI (y))), (5, .int (zI (z))), (6, .int (zI ((i : Int))))]) ?_ (0) (0) (0) (1) (⟨by omega, by rw [sm_0], by rw [colS_0], Or.inl ⟨rfl, fa_0⟩⟩) (lv_sub hl [4, 5, 6, 3, 2, 1, 0] rfl)
  intro i x y z hinv ih_11 ls hl
  obtain ⟨h_i, h_x, h_y, h_b⟩ := hinv
  have hcb : 0 ≤ y ∧ y ≤ 3 := by rw [h_y]; exact colS_bd g ld i
  have hxb : 0 ≤ x ∧ x ≤ (i : Int) := by rw [h_x]; exact sm_01 (fun k => ti_01 _)
  refine lv_iload (pc := 11) hx hb dX8_isLoadAllowed_11 (lv_at hl 6 rfl) ?_
  refine lv_aload_n (pc := 13) hx hb dX8_isLoadAllowed_13 rfl (lv_at hl 0 rfl) ?_
  refine zr_get (pc := 14) S hK (hP 0 (by decide)) rfl i_X8 1 (by decide) (List.mem_of_getElem? (i := 1) rfl) rfl dX8_isLoadAllowed_14 ?_
  refine lv_iconst (pc := 17) (v := zI 0) hx hb dX8_isLoadAllowed_17 rfl ?_
  refine zr_ald (pc := 18) (n := 572) hx hb (zAr_of (zK_int hK) (hP 1 (by decide))) (by decide) (by decide) (by decide) dX8_isLoadAllowed_18 ?_
  refine zr_top (b := g 0) (congrFun hg _) ?_
  refine zr_icmp_ge (pc := 19) (tgt := 89) hx hb dX8_isLoadAllowed_19 (by decide) (by omega) (by omega) (fun c_19 => ?_) (fun c_19 => ?_)
  · have hx3 : y = colS g ld (g 0) := by rw [h_y, show (i : Int) = g 0 by omega]
    refine lv_iload (pc := 89) hx hb dX8_isLoadAllowed_89 (lv_at hl 5 rfl) ?_
    refine zr_if_eq (pc := 91) (tgt := 114) hx hb dX8_isLoadAllowed_91 (by decide) (by omega) (fun c_91 => ?_) (fun c_91 => ?_)
    · refine lv_iconst (pc := 114) (v := zI 0) hx hb dX8_isLoadAllowed_114 rfl ?_
      exact W.zret (ty := .boolean) (v := zI (0)) hx hb hr (by first | rfl | decide) (fun tz ht hW => ⟨_, rfl, bz_f (fun q => by first | exact h_b.elim (fun z => absurd z.1 (by omega)) (fun z => z.2 (fun b b0 b1 => q.1 b b0 (by omega))) | (have q2 : sm _ _ ≤ 5 := q.2.1; rw [show (g 0).toNat = i by omega] at q2; omega) | exact q.2.2.elim c_101 (fun z => z ((colS_3 g ld (g 0)).mp (hx3.symm.trans c_107)))), ht⟩) (fun _ h => by cases h) dX8_isLoadAllowed_115
    · refine lv_iload_n (pc := 94) hx hb dX8_isLoadAllowed_94 rfl (lv_at hl 3 rfl) ?_
      refine lv_iconst (pc := 95) (v := zI 5) hx hb dX8_isLoadAllowed_95 rfl ?_
      refine zr_icmp_gt (pc := 96) (tgt := 114) hx hb dX8_isLoadAllowed_96 (by decide) (by omega) (by decide) (fun c_96 => ?_) (fun c_96 => ?_)
      · refine lv_iconst (pc := 114) (v := zI 0) hx hb dX8_isLoadAllowed_114 rfl ?_
        exact W.zret (ty := .boolean) (v := zI (0)) hx hb hr (by first | rfl | decide) (fun tz ht hW => ⟨_, rfl, bz_f (fun q => by first | exact h_b.elim (fun z => absurd z.1 (by omega)) (fun z => z.2 (fun b b0 b1 => q.1 b b0 (by omega))) | (have q2 : sm _ _ ≤ 5 := q.2.1; rw [show (g 0).toNat = i by omega] at q2; omega) | exact q.2.2.elim c_101 (fun z => z ((colS_3 g ld (g 0)).mp (hx3.symm.trans c_107)))), ht⟩) (fun _ h => by cases h) dX8_isLoadAllowed_115
      · refine lv_iload_n (pc := 99) hx hb dX8_isLoadAllowed_99 rfl (lv_at hl 1 rfl) ?_
        refine lv_iconst (pc := 100) (v := zI 3) hx hb dX8_isLoadAllowed_100 rfl ?_
        refine zr_icmp_eq (pc := 101) (tgt := 110) hx hb dX8_isLoadAllowed_101 (by decide) (by omega) (by decide) (fun c_101 => ?_) (fun c_101 => ?_)
        · refine lv_iconst (pc := 110) (v := zI 1) hx hb dX8_isLoadAllowed_110 rfl ?_
          refine lv_goto (pc := 111) (tgt := 115) hx hb dX8_isLoadAllowed_111 (by decide) ?_
          exact W.zret (ty := .boolean) (v := zI (1)) hx hb hr (by first | rfl | decide) (fun tz ht hW => ⟨_, rfl, bz_t ⟨fun b b0 b1 => (h_b.resolve_right (fun z => c_91 z.1)).2 b b0 (by omega), by rw [show (g 0).toNat = i by omega]; show sm _ i ≤ 5; omega, by first | exact Or.inl c_101 | exact Or.inr (fun q => c_107 (hx3.trans ((colS_3 g ld (g 0)).mpr q)))⟩, ht⟩) (fun _ h => by cases h) dX8_isLoadAllowed_115
        · refine lv_iload (pc := 104) hx hb dX8_isLoadAllowed_104 (lv_at hl 4 rfl) ?_
          refine lv_iconst (pc := 106) (v := zI 3) hx hb dX8_isLoadAllowed_106 rfl ?_
          refine zr_icmp_eq (pc := 107) (tgt := 114) hx hb dX8_isLoadAllowed_107 (by decide) (by omega) (by decide) (fun c_107 => ?_) (fun c_107 => ?_)
          · refine lv_iconst (pc := 114) (v := zI 0) hx hb dX8_isLoadAllowed_114 rfl ?_
            exact W.zret (ty := .boolean) (v := zI (0)) hx hb hr (by first | rfl | decide) (fun tz ht hW => ⟨_, rfl, bz_f (fun q => by first | exact h_b.elim (fun z => absurd z.1 (by omega)) (fun z => z.2 (fun b b0 b1 => q.1 b b0 (by omega))) | (have q2 : sm _ _ ≤ 5 := q.2.1; rw [show (g 0).toNat = i by omega] at q2; omega) | exact q.2.2.elim c_101 (fun z => z ((colS_3 g ld (g 0)).mp (hx3.symm.trans c_107)))), ht⟩) (fun _ h => by cases h) dX8_isLoadAllowed_115
          · refine lv_iconst (pc := 110) (v := zI 1) hx hb dX8_isLoadAllowed_110 rfl ?_
            refine lv_goto (pc := 111) (tgt := 115) hx hb dX8_isLoadAllowed_111 (by decide) ?_
            exact W.zret (ty := .boolean) (v := zI (1)) hx hb hr (by first | rfl | decide) (fun tz ht hW => ⟨_, rfl, bz_t ⟨fun b b0 b1 => (h_b.resolve_right (fun z => c_91 z.1)).2 b b0 (by omega), by rw [show (g 0).toNat = i by omega]; show sm _ i ≤ 5; omega, by first | exact Or.inl c_101 | exact Or.inr (fun q => c_107 (hx3.trans ((colS_3 g ld (g 0)).mpr q)))⟩, ht⟩) (fun _ h => by cases h) dX8_isLoadAllowed_115
  · refine lv_iload_n (pc := 22) hx hb dX8_isLoadAllowed_22 rfl (lv_at hl 2 rfl) ?_
    refine lv_iload (pc := 23) hx hb dX8_isLoadAllowed_23 (lv_at hl 6 rfl) ?_
    refine zr_si (pc := 25) (As := [.int (zI (ld)), .int (zI ((i : Int)))]) (rest := []) S (ct_X8_has l D cI cT ld ((i : Int)) (by omega) (by omega) (by omega) (by omega)) (va_cwS 2 hts gX8_isLoadAllowed_X8_has rfl rfl rfl (by decide +kernel) ⟨Nat.le_of_ble_eq_true rfl, Nat.le_of_ble_eq_true rfl⟩) zs0 hK trivial rfl hl.1 rfl (Nat.le_of_ble_eq_true rfl) dX8_isLoadAllowed_25 ⟨Nat.le_of_ble_eq_true rfl, Nat.le_of_ble_eq_true rfl⟩ (fun r_25 hr_25 => ?_)
    rcases hr_25 with ⟨hb_25, rfl⟩ | ⟨hb_25, rfl⟩
    · refine zr_if_eq (pc := 28) (tgt := 83) hx hb dX8_isLoadAllowed_28 (by decide) (by decide) (fun z => absurd z (by decide)) (fun _ => ?_)
      refine zr_iinc (pc := 31) (d := x + 1) (lv' := [(3, .int (zI (x + 1))), (0, .ref (am 0)), (1, .int (zI (p))), (2, .int (zI (ld))), (4, .int (zI (y))), (5, .int (zI (z))), (6, .int (zI ((i : Int))))]) hx hb dX8_isLoadAllowed_31 hl (k := 3) rfl rfl (by decide) rfl (fun ls hl => ?_)
      refine lv_iload (pc := 34) hx hb dX8_isLoadAllowed_34 (lv_at hl 4 rfl) ?_
      refine lv_iconst (pc := 36) (v := zI 1) hx hb dX8_isLoadAllowed_36 rfl ?_
      refine lv_aload_n (pc := 37) hx hb dX8_isLoadAllowed_37 rfl (lv_at hl 1 rfl) ?_
      refine lv_iload (pc := 38) hx hb dX8_isLoadAllowed_38 (lv_at hl 6 rfl) ?_
      refine lv_iconst (pc := 40) (v := zI 5) hx hb dX8_isLoadAllowed_40 rfl ?_
      refine zr_vi (pc := 41) (As := [.int (zI ((i : Int))), .int (zI (5))]) (rest := [.int (zI (1)), .int (zI (y))]) S (ct_X8_of l D cI cT am μ g hg hI ((i : Int)) 5 (by omega) (by omega) (by omega) (by omega)) (cwV 2 hts gX8_isLoadAllowed_X8_of rfl rfl rfl (by decide +kernel) ⟨Nat.le_of_ble_eq_true rfl, Nat.le_of_ble_eq_true rfl⟩) zs0 hK hP (zr_recv hK (hP 0 (by decide)) rfl) rfl hl.1 rfl (Nat.le_of_ble_eq_true rfl) dX8_isLoadAllowed_41 ⟨Nat.le_of_ble_eq_true rfl, Nat.le_of_ble_eq_true rfl⟩ (fun r_41 hr_41 => ?_)
      subst hr_41
      have hcl := iv_cl hI (c := (i : Int)) (by omega) (by omega)
      refine zr_ishl (pc := 44) (d := pw (gC g i 5)) hx hb dX8_isLoadAllowed_44 (zi_pw (by omega) (by omega)) ?_
      refine zr_ior (pc := 45) (d := orc y (gC g i 5)) hx hb dX8_isLoadAllowed_45 (zi_orc hcb.1 hcb.2 hcl.1 hcl.2) ?_
      refine lv_istore (pc := 46) (lv' := [(4, .int (zI (orc y (gC g i 5)))), (3, .int (zI (x + 1))), (0, .ref (am 0)), (1, .int (zI (p))), (2, .int (zI (ld))), (5, .int (zI (z))), (6, .int (zI ((i : Int))))]) hx hb dX8_isLoadAllowed_46 hl (by decide) rfl (fun ls hl => ?_)
      refine lv_iload (pc := 48) hx hb dX8_isLoadAllowed_48 (lv_at hl 5 rfl) ?_
      refine zr_if_eq (pc := 50) (tgt := 80) hx hb dX8_isLoadAllowed_50 (by decide) (by omega) (fun c_50 => ?_) (fun c_50 => ?_)
      · refine lv_iconst (pc := 80) (v := zI 0) hx hb dX8_isLoadAllowed_80 rfl ?_
        refine lv_istore (pc := 81) (lv' := [(5, .int (zI (0))), (4, .int (zI (orc y (gC g i 5)))), (3, .int (zI (x + 1))), (0, .ref (am 0)), (1, .int (zI (p))), (2, .int (zI (ld))), (6, .int (zI ((i : Int))))]) hx hb dX8_isLoadAllowed_81 hl (by decide) rfl (fun ls hl => ?_)
        refine zr_iinc (pc := 83) (d := ((i : Int)) + 1) (lv' := [(6, .int (zI (((i : Int)) + 1))), (5, .int (zI (0))), (4, .int (zI (orc y (gC g i 5)))), (3, .int (zI (x + 1))), (0, .ref (am 0)), (1, .int (zI (p))), (2, .int (zI (ld)))]) hx hb dX8_isLoadAllowed_83 hl (k := 6) rfl rfl (by decide) rfl (fun ls hl => ?_)
        refine lv_goto (pc := 86) (tgt := 11) hx hb dX8_isLoadAllowed_86 (by decide) ?_
        exact ih_11 (i + 1) ((x + 1)) ((orc y (gC g i 5))) (0) (⟨by omega, by rw [sm_s]; first | (rw [ti_t hb_25]; omega) | (rw [ti_f hb_25]; omega), by first | (rw [colS_n hb_25]; exact h_y) | (rw [colS_y hb_25 hcl, h_y]), by first | exact Or.inl ⟨rfl, fa_s (h_b.resolve_right (fun z => c_50 z.1)).2 (fun _ => ⟨hb_56, hb_70⟩)⟩ | exact Or.inr ⟨rfl, fun q => (h_b.resolve_left (fun z => absurd z.1 (by omega))).2 (fun b b0 b1 => q b b0 (by omega))⟩ | exact Or.inr ⟨rfl, fun q => by have q2 := q i (by omega) (by omega) hb_25; first | exact q2.1 hb_56 | exact hb_70 q2.2⟩ | exact h_b.elim (fun w => Or.inl ⟨w.1, fa_s w.2 (fun q => absurd q hb_25)⟩) (fun w => Or.inr ⟨w.1, fun q => w.2 (fun b b0 b1 => q b b0 (by omega))⟩)⟩) (by omega) ls (lv_sub hl [4, 5, 6, 3, 2, 1, 0] rfl)
      · refine lv_aload_n (pc := 53) hx hb dX8_isLoadAllowed_53 rfl (lv_at hl 2 rfl) ?_
        refine lv_iload (pc := 54) hx hb dX8_isLoadAllowed_54 (lv_at hl 6 rfl) ?_
        refine zr_vi (pc := 56) (As := [.int (zI ((i : Int)))]) (rest := []) S (ct_X8_isAwayToday l D cI cT am μ g hg hI ((i : Int)) (by omega) (by omega)) (cwV 1 hts gX8_isLoadAllowed_X8_isAwayToday rfl rfl rfl (by decide +kernel) ⟨Nat.le_of_ble_eq_true rfl, Nat.le_of_ble_eq_true rfl⟩) zs0 hK hP (zr_recv hK (hP 0 (by decide)) rfl) rfl hl.1 rfl (Nat.le_of_ble_eq_true rfl) dX8_isLoadAllowed_56 ⟨Nat.le_of_ble_eq_true rfl, Nat.le_of_ble_eq_true rfl⟩ (fun r_56 hr_56 => ?_)
        rcases hr_56 with ⟨hb_56, rfl⟩ | ⟨hb_56, rfl⟩
        · refine zr_if_ne (pc := 59) (tgt := 80) hx hb dX8_isLoadAllowed_59 (by decide) (by decide) (fun _ => ?_) (fun z => absurd z (by decide))
          refine lv_iconst (pc := 80) (v := zI 0) hx hb dX8_isLoadAllowed_80 rfl ?_
          refine lv_istore (pc := 81) (lv' := [(5, .int (zI (0))), (4, .int (zI (orc y (gC g i 5)))), (3, .int (zI (x + 1))), (0, .ref (am 0)), (1, .int (zI (p))), (2, .int (zI (ld))), (6, .int (zI ((i : Int))))]) hx hb dX8_isLoadAllowed_81 hl (by decide) rfl (fun ls hl => ?_)
          refine zr_iinc (pc := 83) (d := ((i : Int)) + 1) (lv' := [(6, .int (zI (((i : Int)) + 1))), (5, .int (zI (0))), (4, .int (zI (orc y (gC g i 5)))), (3, .int (zI (x + 1))), (0, .ref (am 0)), (1, .int (zI (p))), (2, .int (zI (ld)))]) hx hb dX8_isLoadAllowed_83 hl (k := 6) rfl rfl (by decide) rfl (fun ls hl => ?_)
          refine lv_goto (pc := 86) (tgt := 11) hx hb dX8_isLoadAllowed_86 (by decide) ?_
          exact ih_11 (i + 1) ((x + 1)) ((orc y (gC g i 5))) (0) (⟨by omega, by rw [sm_s]; first | (rw [ti_t hb_25]; omega) | (rw [ti_f hb_25]; omega), by first | (rw [colS_n hb_25]; exact h_y) | (rw [colS_y hb_25 hcl, h_y]), by first | exact Or.inl ⟨rfl, fa_s (h_b.resolve_right (fun z => c_50 z.1)).2 (fun _ => ⟨hb_56, hb_70⟩)⟩ | exact Or.inr ⟨rfl, fun q => (h_b.resolve_left (fun z => absurd z.1 (by omega))).2 (fun b b0 b1 => q b b0 (by omega))⟩ | exact Or.inr ⟨rfl, fun q => by have q2 := q i (by omega) (by omega) hb_25; first | exact q2.1 hb_56 | exact hb_70 q2.2⟩ | exact h_b.elim (fun w => Or.inl ⟨w.1, fa_s w.2 (fun q => absurd q hb_25)⟩) (fun w => Or.inr ⟨w.1, fun q => w.2 (fun b b0 b1 => q b b0 (by omega))⟩)⟩) (by omega) ls (lv_sub hl [4, 5, 6, 3, 2, 1, 0] rfl)
        · refine zr_if_ne (pc := 59) (tgt := 80) hx hb dX8_isLoadAllowed_59 (by decide) (by decide) (fun z => absurd z (by decide)) (fun _ => ?_)
          have hco := iv_co hI (c := (i : Int)) (by omega) (by omega)
          refine lv_iload_n (pc := 62) hx hb dX8_isLoadAllowed_62 rfl (lv_at hl 3 rfl) ?_
          refine lv_aload_n (pc := 63) hx hb dX8_isLoadAllowed_63 rfl (lv_at hl 2 rfl) ?_
          refine lv_iload (pc := 64) hx hb dX8_isLoadAllowed_64 (lv_at hl 6 rfl) ?_
          refine lv_iconst (pc := 66) (v := zI 4) hx hb dX8_isLoadAllowed_66 rfl ?_
          refine zr_vi (pc := 67) (As := [.int (zI ((i : Int))), .int (zI (4))]) (rest := [.int (zI (p))]) S (ct_X8_of l D cI cT am μ g hg hI ((i : Int)) 4 (by omega) (by omega) (by omega) (by omega)) (cwV 2 hts gX8_isLoadAllowed_X8_of rfl rfl rfl (by decide +kernel) ⟨Nat.le_of_ble_eq_true rfl, Nat.le_of_ble_eq_true rfl⟩) zs0 hK hP (zr_recv hK (hP 0 (by decide)) rfl) rfl hl.1 rfl (Nat.le_of_ble_eq_true rfl) dX8_isLoadAllowed_67 ⟨Nat.le_of_ble_eq_true rfl, Nat.le_of_ble_eq_true rfl⟩ (fun r_67 hr_67 => ?_)
          subst hr_67
          refine zr_si (pc := 70) (As := [.int (zI (p)), .int (zI (gC g ((i : Int)) 4))]) (rest := []) S (ct_X8_canWash l D cI cT p (gC g ((i : Int)) 4) (by omega) (by omega) (by omega) (by omega)) (va_cwS 2 hts gX8_isLoadAllowed_X8_canWash rfl rfl rfl (by decide +kernel) ⟨Nat.le_of_ble_eq_true rfl, Nat.le_of_ble_eq_true rfl⟩) zs0 hK trivial rfl hl.1 rfl (Nat.le_of_ble_eq_true rfl) dX8_isLoadAllowed_70 ⟨Nat.le_of_ble_eq_true rfl, Nat.le_of_ble_eq_true rfl⟩ (fun r_70 hr_70 => ?_)
          rcases hr_70 with ⟨hb_70, rfl⟩ | ⟨hb_70, rfl⟩
          · refine zr_if_eq (pc := 73) (tgt := 80) hx hb dX8_isLoadAllowed_73 (by decide) (by decide) (fun z => absurd z (by decide)) (fun _ => ?_)
            refine lv_iconst (pc := 76) (v := zI 1) hx hb dX8_isLoadAllowed_76 rfl ?_
            refine lv_goto (pc := 77) (tgt := 81) hx hb dX8_isLoadAllowed_77 (by decide) ?_
            refine lv_istore (pc := 81) (lv' := [(5, .int (zI (1))), (4, .int (zI (orc y (gC g i 5)))), (3, .int (zI (x + 1))), (0, .ref (am 0)), (1, .int (zI (p))), (2, .int (zI (ld))), (6, .int (zI ((i : Int))))]) hx hb dX8_isLoadAllowed_81 hl (by decide) rfl (fun ls hl => ?_)
            refine zr_iinc (pc := 83) (d := ((i : Int)) + 1) (lv' := [(6, .int (zI (((i : Int)) + 1))), (5, .int (zI (1))), (4, .int (zI (orc y (gC g i 5)))), (3, .int (zI (x + 1))), (0, .ref (am 0)), (1, .int (zI (p))), (2, .int (zI (ld)))]) hx hb dX8_isLoadAllowed_83 hl (k := 6) rfl rfl (by decide) rfl (fun ls hl => ?_)
            refine lv_goto (pc := 86) (tgt := 11) hx hb dX8_isLoadAllowed_86 (by decide) ?_
            exact ih_11 (i + 1) ((x + 1)) ((orc y (gC g i 5))) (1) (⟨by omega, by rw [sm_s]; first | (rw [ti_t hb_25]; omega) | (rw [ti_f hb_25]; omega), by first | (rw [colS_n hb_25]; exact h_y) | (rw [colS_y hb_25 hcl, h_y]), by first | exact Or.inl ⟨rfl, fa_s (h_b.resolve_right (fun z => c_50 z.1)).2 (fun _ => ⟨hb_56, hb_70⟩)⟩ | exact Or.inr ⟨rfl, fun q => (h_b.resolve_left (fun z => absurd z.1 (by omega))).2 (fun b b0 b1 => q b b0 (by omega))⟩ | exact Or.inr ⟨rfl, fun q => by have q2 := q i (by omega) (by omega) hb_25; first | exact q2.1 hb_56 | exact hb_70 q2.2⟩ | exact h_b.elim (fun w => Or.inl ⟨w.1, fa_s w.2 (fun q => absurd q hb_25)⟩) (fun w => Or.inr ⟨w.1, fun q => w.2 (fun b b0 b1 => q b b0 (by omega))⟩)⟩) (by omega) ls (lv_sub hl [4, 5, 6, 3, 2, 1, 0] rfl)
          · refine zr_if_eq (pc := 73) (tgt := 80) hx hb dX8_isLoadAllowed_73 (by decide) (by decide) (fun _ => ?_) (fun z => absurd z (by decide))
            refine lv_iconst (pc := 80) (v := zI 0) hx hb dX8_isLoadAllowed_80 rfl ?_
            refine lv_istore (pc := 81) (lv' := [(5, .int (zI (0))), (4, .int (zI (orc y (gC g i 5)))), (3, .int (zI (x + 1))), (0, .ref (am 0)), (1, .int (zI (p))), (2, .int (zI (ld))), (6, .int (zI ((i : Int))))]) hx hb dX8_isLoadAllowed_81 hl (by decide) rfl (fun ls hl => ?_)
            refine zr_iinc (pc := 83) (d := ((i : Int)) + 1) (lv' := [(6, .int (zI (((i : Int)) + 1))), (5, .int (zI (0))), (4, .int (zI (orc y (gC g i 5)))), (3, .int (zI (x + 1))), (0, .ref (am 0)), (1, .int (zI (p))), (2, .int (zI (ld)))]) hx hb dX8_isLoadAllowed_83 hl (k := 6) rfl rfl (by decide) rfl (fun ls hl => ?_)
            refine lv_goto (pc := 86) (tgt := 11) hx hb dX8_isLoadAllowed_86 (by decide) ?_
            exact ih_11 (i + 1) ((x + 1)) ((orc y (gC g i 5))) (0) (⟨by omega, by rw [sm_s]; first | (rw [ti_t hb_25]; omega) | (rw [ti_f hb_25]; omega), by first | (rw [colS_n hb_25]; exact h_y) | (rw [colS_y hb_25 hcl, h_y]), by first | exact Or.inl ⟨rfl, fa_s (h_b.resolve_right (fun z => c_50 z.1)).2 (fun _ => ⟨hb_56, hb_70⟩)⟩ | exact Or.inr ⟨rfl, fun q => (h_b.resolve_left (fun z => absurd z.1 (by omega))).2 (fun b b0 b1 => q b b0 (by omega))⟩ | exact Or.inr ⟨rfl, fun q => by have q2 := q i (by omega) (by omega) hb_25; first | exact q2.1 hb_56 | exact hb_70 q2.2⟩ | exact h_b.elim (fun w => Or.inl ⟨w.1, fa_s w.2 (fun q => absurd q hb_25)⟩) (fun w => Or.inr ⟨w.1, fun q => w.2 (fun b b0 b1 => q b b0 (by omega))⟩)⟩) (by omega) ls (lv_sub hl [4, 5, 6, 3, 2, 1, 0] rfl)
    · refine zr_if_eq (pc := 28) (tgt := 83) hx hb dX8_isLoadAllowed_28 (by decide) (by decide) (fun _ => ?_) (fun z => absurd z (by decide))
      refine zr_iinc (pc := 83) (d := ((i : Int)) + 1) (lv' := [(6, .int (zI (((i : Int)) + 1))), (0, .ref (am 0)), (1, .int (zI (p))), (2, .int (zI (ld))), (3, .int (zI (x))), (4, .int (zI (y))), (5, .int (zI (z)))]) hx hb dX8_isLoadAllowed_83 hl (k := 6) rfl rfl (by decide) rfl (fun ls hl => ?_)
      refine lv_goto (pc := 86) (tgt := 11) hx hb dX8_isLoadAllowed_86 (by decide) ?_
      exact ih_11 (i + 1) (x) (y) (z) (⟨by omega, by rw [sm_s]; first | (rw [ti_t hb_25]; omega) | (rw [ti_f hb_25]; omega), by first | (rw [colS_n hb_25]; exact h_y) | (rw [colS_y hb_25 hcl, h_y]), by first | exact Or.inl ⟨rfl, fa_s (h_b.resolve_right (fun z => c_50 z.1)).2 (fun _ => ⟨hb_56, hb_70⟩)⟩ | exact Or.inr ⟨rfl, fun q => (h_b.resolve_left (fun z => absurd z.1 (by omega))).2 (fun b b0 b1 => q b b0 (by omega))⟩ | exact Or.inr ⟨rfl, fun q => by have q2 := q i (by omega) (by omega) hb_25; first | exact q2.1 hb_56 | exact hb_70 q2.2⟩ | exact h_b.elim (fun w => Or.inl ⟨w.1, fa_s w.2 (fun q => absurd q hb_25)⟩) (fun w => Or.inr ⟨w.1, fun q => w.2 (fun b b0 b1 => q b b0 (by omega))⟩)⟩) (by omega) ls (lv_sub hl [1, 2, 3, 4, 5, 6, 0] rfl)
