set_option maxHeartbeats 4000000 in
set_option maxRecDepth 100000 in
theorem ct_X6_present (l : Launch) (D : va_G) (cI cT : ClassId) (ad : Nat → Nat) (σ : Nat → Int → Int) (g : Int → Int) (hR : Rel σ g) (hI : Inv g) (c : Int) (m : Int) (h0 : 0 ≤ c) (h1 : c < g 0) (m0 : 0 ≤ m) (m1 : m < 3) : zMr l yX6_present wsX6_present ({ frames := 2, cells := 0, slots := 0, locals := 43 }) D cI cT [.ref (ad 1), .int (zI (c)), .int (zI (m))] (fun _ H => zW D ad 20 (sC cI ad σ) H) (fun r => r = zI (pres g c m)) := by
  refine Met.ofW (cc := cX6_present) (maxL := 7) (ret := (some .int)) (by decide) rfl ?_
  intro p_ e_ s m_ args below meth c_ s₁ B hml hv
  obtain ⟨rfl, hK, hF⟩ := hv
  have hx := B.exec
  have hb := B.bytes
  have hr := B.returns
  have hts := atoms_spec (ws := wsX6_present) B.pre
  have hown : s.vm.findClass RX6 = some m_.cls := findClass_of_methodNamed B.named
  have hlocks := B.notSynchronized
  have S : CallFix p_ m_ c_ cX6_present 7 s _ wsX6_present RX6 := ⟨hx, hb, hml, hown, hts⟩
  have i_X6 : ∀ w ∈ u_ws RX6 TX6 9, w ∈ wsX6_present := fun _ h => List.mem_cons_of_mem _ (List.mem_append_right _ h)
  have hP := hF
  have hnC := iv_nC hI
  have hna := iv_na hI h0 h1
  have hor := iv_or hI h0 h1 m0 m1
  have hl := lv_entry ([.ref (ad 1), .int (zI (c)), .int (zI (m))]) (n := 7) (Nat.le_of_ble_eq_true rfl)
  rw [lg_entry_eq]
  generalize (lg_sl ([.ref (ad 1), .int (zI (c)), .int (zI (m))]) ++ List.replicate (7 - (lg_sl ([.ref (ad 1), .int (zI (c)), .int (zI (m))])).length) Slot.unset).toArray = ls at hl ⊢
  have hl : lv_has ls 7 [(0, .ref (ad 1)), (1, .int (zI (c))), (2, .int (zI (m)))] := hl
  refine lv_aload_n (pc := 0) hx hb dX6_present_0 rfl (lv_at hl 0 rfl) ?_
  refine lv_iload_n (pc := 1) hx hb dX6_present_1 rfl (lv_at hl 1 rfl) ?_
  refine lv_iload_n (pc := 2) hx hb dX6_present_2 rfl (lv_at hl 2 rfl) ?_
  refine zr_vi (pc := 3) (As := [.int (zI (c)), .int (zI (m))]) (rest := []) S (ct_X6_originalOf l D cI cT ad σ g hR hI c m (by omega) (by omega) (by omega) (by omega)) (cwV 2 hts gX6_present_X6_originalOf rfl rfl rfl (by decide +kernel) ⟨Nat.le_of_ble_eq_true rfl, Nat.le_of_ble_eq_true rfl⟩) zs0 hK hP (zr_recv hK (hP 1 (by decide)) rfl) rfl hl.1 rfl (Nat.le_of_ble_eq_true rfl) dX6_present_3 ⟨Nat.le_of_ble_eq_true rfl, Nat.le_of_ble_eq_true rfl⟩ (fun r_3 hr_3 => ?_)
  subst hr_3
  refine lv_istore_n (pc := 6) (lv' := [(3, .int (zI (gC g c m))), (0, .ref (ad 1)), (1, .int (zI (c))), (2, .int (zI (m)))]) hx hb dX6_present_6 rfl hl (by decide) rfl (fun ls hl => ?_)
  refine lv_aload_n (pc := 7) hx hb dX6_present_7 rfl (lv_at hl 1 rfl) ?_
  refine zr_get (pc := 8) S hK (hP 1 (by decide)) rfl i_X6 6 (by decide) (List.mem_of_getElem? (i := 1) rfl) rfl dX6_present_8 ?_
  refine lv_iload_n (pc := 11) hx hb dX6_present_11 rfl (lv_at hl 2 rfl) ?_
  refine zr_ni (pc := 12) (As := [.ref (ad 10), .int (zI (c))]) (rest := []) S (ct_X7_at l D cI cT (ad 10) 16 _ c (gC g c 7) (by decide) (by omega) (by omega) (rl_na hR h0 h1) (by omega)) (va_cnB 2 hts gX6_present_X7_at_n48 rfl rfl rfl (zK_nest hK 13 rfl) (hts _ (List.mem_of_getElem? (i := 11) rfl)) (by decide +kernel) ⟨Nat.le_of_ble_eq_true rfl, Nat.le_of_ble_eq_true rfl⟩) (hts _ (List.mem_of_getElem? (i := 10) rfl)) zs_ar hK (zAr_of (zK_int hK) (hP 10 (by decide))) rfl hl.1 rfl (Nat.le_of_ble_eq_true rfl) dX6_present_12 ⟨Nat.le_of_ble_eq_true rfl, Nat.le_of_ble_eq_true rfl⟩ (fun r_12 hr_12 => ?_)
  subst hr_12
  refine lv_istore (pc := 15) (lv' := [(4, .int (zI (gC g c 7))), (3, .int (zI (gC g c m))), (0, .ref (ad 1)), (1, .int (zI (c))), (2, .int (zI (m)))]) hx hb dX6_present_15 hl (by decide) rfl (fun ls hl => ?_)
  refine lv_iconst (pc := 17) (v := zI 0) hx hb dX6_present_17 rfl ?_
  refine lv_istore (pc := 18) (lv' := [(5, .int (zI (0))), (4, .int (zI (gC g c 7))), (3, .int (zI (gC g c m))), (0, .ref (ad 1)), (1, .int (zI (c))), (2, .int (zI (m)))]) hx hb dX6_present_18 hl (by decide) rfl (fun ls hl => ?_)
  refine zr_loop2 (fun (i : Nat) (x : Int) => ((i : Int) ≤ gC g c 7) ∧ (x = gC g c m + sm (fun k => ti (gM g c k = m) * gX g c k) i)) (fun (i : Nat) (x : Int) => (gC g c 7 : Int).toNat - i) (fun (i : Nat) (x : Int) => [(4, .int (zI (gC g c 7))), (0, .ref (ad 1)), (1, .int (zI (c))), (2, .int (zI (m))), (3, .int (zI (x))), (5, .int (zI ((i : Int))))]) ?_ (0) ((gC g c m)) (⟨by omega, by rw [sm_0]; omega⟩) (lv_sub hl [1, 3, 4, 5, 2, 0] rfl)
  intro i x hinv ih_20 ls hl
  obtain ⟨h_i, h_x⟩ := hinv
  refine lv_iload (pc := 20) hx hb dX6_present_20 (lv_at hl 5 rfl) ?_
  refine lv_iload (pc := 22) hx hb dX6_present_22 (lv_at hl 0 rfl) ?_
  refine zr_icmp_ge (pc := 24) (tgt := 67) hx hb dX6_present_24 (by decide) (by omega) (by omega) (fun c_24 => ?_) (fun c_24 => ?_)
  · refine lv_iload_n (pc := 67) hx hb dX6_present_67 rfl (lv_at hl 4 rfl) ?_
    exact W.iret (v := zI (x)) hx hb hr (fun t ht hW => ⟨_, rfl, congrArg zI (by rw [h_x, show i = (gC g c 7).toNat by omega, pres]), ht⟩) (fun _ h => by cases h) dX6_present_68
  · refine lv_aload_n (pc := 27) hx hb dX6_present_27 rfl (lv_at hl 1 rfl) ?_
    refine lv_iload_n (pc := 28) hx hb dX6_present_28 rfl (lv_at hl 2 rfl) ?_
    refine lv_iload (pc := 29) hx hb dX6_present_29 (lv_at hl 5 rfl) ?_
    refine zr_vi (pc := 31) (As := [.int (zI (c)), .int (zI ((i : Int)))]) (rest := []) S (ct_X6_placeOf l D cI cT ad σ g hR hI c ((i : Int)) ) (cwV 2 hts gX6_present_X6_placeOf rfl rfl rfl (by decide +kernel) ⟨Nat.le_of_ble_eq_true rfl, Nat.le_of_ble_eq_true rfl⟩) zs0 hK hP (zr_recv hK (hP 1 (by decide)) rfl) rfl hl.1 rfl (Nat.le_of_ble_eq_true rfl) dX6_present_31 ⟨Nat.le_of_ble_eq_true rfl, Nat.le_of_ble_eq_true rfl⟩ (fun r_31 hr_31 => ?_)
    subst hr_31
    refine lv_istore (pc := 34) (lv' := [(6, .int (zI (c * 6 + ((i : Int))))), (4, .int (zI (gC g c 7))), (0, .ref (ad 1)), (1, .int (zI (c))), (2, .int (zI (m))), (3, .int (zI (x))), (5, .int (zI ((i : Int))))]) hx hb dX6_present_34 hl (by decide) rfl (fun ls hl => ?_)
    refine lv_aload_n (pc := 36) hx hb dX6_present_36 rfl (lv_at hl 2 rfl) ?_
    refine zr_get (pc := 37) S hK (hP 1 (by decide)) rfl i_X6 7 (by decide) (List.mem_of_getElem? (i := 2) rfl) rfl dX6_present_37 ?_
    refine lv_iload (pc := 40) hx hb dX6_present_40 (lv_at hl 0 rfl) ?_
    refine zr_ni (pc := 42) (As := [.ref (ad 11), .int (zI (c * 6 + ((i : Int))))]) (rest := []) S (ct_X7_at l D cI cT (ad 11) 96 _ (c * 6 + ((i : Int))) (gM g c i) (by decide) (by omega) (by omega) (rl_am hR h0 h1 (by omega) (by omega)) (by omega)) (va_cnB 2 hts gX6_present_X7_at_n48 rfl rfl rfl (zK_nest hK 13 rfl) (hts _ (List.mem_of_getElem? (i := 11) rfl)) (by decide +kernel) ⟨Nat.le_of_ble_eq_true rfl, Nat.le_of_ble_eq_true rfl⟩) (hts _ (List.mem_of_getElem? (i := 10) rfl)) zs_ar hK (zAr_of (zK_int hK) (hP 11 (by decide))) rfl hl.1 rfl (Nat.le_of_ble_eq_true rfl) dX6_present_42 ⟨Nat.le_of_ble_eq_true rfl, Nat.le_of_ble_eq_true rfl⟩ (fun r_42 hr_42 => ?_)
    subst hr_42
    have ham := iv_am hI h0 h1 (show 0 ≤ (i : Int) by omega) (by omega)
    refine lv_iload_n (pc := 45) hx hb dX6_present_45 rfl (lv_at hl 4 rfl) ?_
    refine zr_icmp_ne (pc := 46) (tgt := 61) hx hb dX6_present_46 (by decide) (by omega) (by omega) (fun c_46 => ?_) (fun c_46 => ?_)
    · refine zr_iinc (pc := 61) (d := ((i : Int)) + 1) (lv' := [(5, .int (zI (((i : Int)) + 1))), (6, .int (zI (c * 6 + ((i : Int))))), (4, .int (zI (gC g c 7))), (0, .ref (ad 1)), (1, .int (zI (c))), (2, .int (zI (m))), (3, .int (zI (x)))]) hx hb dX6_present_61 hl (k := 6) rfl rfl (by decide) rfl (fun ls hl => ?_)
      refine lv_goto (pc := 64) (tgt := 20) hx hb dX6_present_64 (by decide) ?_
      exact ih_20 (i + 1) (x) (⟨by omega, by rw [sm_s]; first | (rw [ti_t c_46]; omega) | (rw [ti_f c_46]; omega)⟩) (by omega) ls (lv_sub hl [2, 3, 4, 5, 6, 0] rfl)
    · refine lv_iload_n (pc := 49) hx hb dX6_present_49 rfl (lv_at hl 5 rfl) ?_
      refine lv_aload_n (pc := 50) hx hb dX6_present_50 rfl (lv_at hl 2 rfl) ?_
      refine zr_get (pc := 51) S hK (hP 1 (by decide)) rfl i_X6 8 (by decide) (List.mem_of_getElem? (i := 3) rfl) rfl dX6_present_51 ?_
      refine lv_iload (pc := 54) hx hb dX6_present_54 (lv_at hl 0 rfl) ?_
      refine zr_ni (pc := 56) (As := [.ref (ad 12), .int (zI (c * 6 + ((i : Int))))]) (rest := [.int (zI (x))]) S (ct_X7_at l D cI cT (ad 12) 96 _ (c * 6 + ((i : Int))) (gX g c i) (by decide) (by omega) (by omega) (rl_ac hR h0 h1 (by omega) (by omega)) (by omega)) (va_cnB 2 hts gX6_present_X7_at_n48 rfl rfl rfl (zK_nest hK 13 rfl) (hts _ (List.mem_of_getElem? (i := 11) rfl)) (by decide +kernel) ⟨Nat.le_of_ble_eq_true rfl, Nat.le_of_ble_eq_true rfl⟩) (hts _ (List.mem_of_getElem? (i := 10) rfl)) zs_ar hK (zAr_of (zK_int hK) (hP 12 (by decide))) rfl hl.1 rfl (Nat.le_of_ble_eq_true rfl) dX6_present_56 ⟨Nat.le_of_ble_eq_true rfl, Nat.le_of_ble_eq_true rfl⟩ (fun r_56 hr_56 => ?_)
      subst hr_56
      refine zr_iadd (pc := 59) (d := x + (gX g c i)) hx hb dX6_present_59 rfl ?_
      refine lv_istore_n (pc := 60) (lv' := [(3, .int (zI (x + (gX g c i)))), (6, .int (zI (c * 6 + ((i : Int))))), (4, .int (zI (gC g c 7))), (0, .ref (ad 1)), (1, .int (zI (c))), (2, .int (zI (m))), (5, .int (zI ((i : Int))))]) hx hb dX6_present_60 rfl hl (by decide) rfl (fun ls hl => ?_)
      refine zr_iinc (pc := 61) (d := ((i : Int)) + 1) (lv' := [(5, .int (zI (((i : Int)) + 1))), (3, .int (zI (x + (gX g c i)))), (6, .int (zI (c * 6 + ((i : Int))))), (4, .int (zI (gC g c 7))), (0, .ref (ad 1)), (1, .int (zI (c))), (2, .int (zI (m)))]) hx hb dX6_present_61 hl (k := 6) rfl rfl (by decide) rfl (fun ls hl => ?_)
      refine lv_goto (pc := 64) (tgt := 20) hx hb dX6_present_64 (by decide) ?_
      exact ih_20 (i + 1) ((x + (gX g c i))) (⟨by omega, by rw [sm_s]; first | (rw [ti_t c_46]; omega) | (rw [ti_f c_46]; omega)⟩) (by omega) ls (lv_sub hl [3, 4, 5, 6, 1, 0] rfl)
