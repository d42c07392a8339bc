set_option maxHeartbeats 4000000 in
set_option maxRecDepth 100000 in
theorem ct_X4_isAway (l : Launch) (D : va_G) (cI cT : ClassId) (ad : Nat → Nat) (σ : Nat → Int → Int) (g : Int → Int) (hR : Rel σ g) (hI : Inv g) (c : Int) (c0 : -1 ≤ c) (c1 : c ≤ 100) : zMr l yX4_isAway wsX4_isAway ({ frames := 3, cells := 0, slots := 0, locals := 66 }) D cI cT [.ref (ad 0), .int (zI (c))] (fun _ H => zW D ad 20 (sC cI ad σ) H) (fun r => bz (awy g c (g 3) 1) r) := by
  refine Met.ofW (cc := cX4_isAway) (maxL := 2) (ret := (some .boolean)) (by decide) rfl ?_
  intro p_ e_ s m_ args below meth c_ s₁ B hml hv
  obtain ⟨rfl, hK, hF⟩ := hv
  have hx := B.exec
  have hb := B.bytes
  have hr := B.returns
  have hts := atoms_spec (ws := wsX4_isAway) B.pre
  have hown : s.vm.findClass RX4 = some m_.cls := findClass_of_methodNamed B.named
  have hlocks := B.notSynchronized
  have S : CallFix p_ m_ c_ cX4_isAway 2 s _ wsX4_isAway RX4 := ⟨hx, hb, hml, hown, hts⟩
  have i_X4 : ∀ w ∈ u_ws RX4 TX4 9, w ∈ wsX4_isAway := fun _ h => List.mem_cons_of_mem _ (List.mem_append_left _ (List.mem_append_right _ h))
  have hP := hF
  have hnC := iv_nC hI
  have hto := iv_to hI
  have hnH := iv_nH hI
  have hl := lv_entry ([.ref (ad 0), .int (zI (c))]) (n := 2) (Nat.le_of_ble_eq_true rfl)
  rw [lg_entry_eq]
  generalize (lg_sl ([.ref (ad 0), .int (zI (c))]) ++ List.replicate (2 - (lg_sl ([.ref (ad 0), .int (zI (c))])).length) Slot.unset).toArray = ls at hl ⊢
  have hl : lv_has ls 2 [(0, .ref (ad 0)), (1, .int (zI (c)))] := hl
  refine lv_aload_n (pc := 0) hx hb dX4_isAway_0 rfl (lv_at hl 0 rfl) ?_
  refine zr_get (pc := 1) S hK (hP 0 (by decide)) rfl i_X4 2 (by decide) (List.mem_of_getElem? (i := 1) rfl) rfl dX4_isAway_1 ?_
  refine lv_iload_n (pc := 4) hx hb dX4_isAway_4 rfl (lv_at hl 1 rfl) ?_
  refine lv_aload_n (pc := 5) hx hb dX4_isAway_5 rfl (lv_at hl 0 rfl) ?_
  refine zr_get (pc := 6) S hK (hP 0 (by decide)) rfl i_X4 4 (by decide) (List.mem_of_getElem? (i := 2) rfl) rfl dX4_isAway_6 ?_
  refine zr_top (b := g 3) (rl_to hR) ?_
  refine lv_iconst (pc := 9) (v := zI 1) hx hb dX4_isAway_9 rfl ?_
  refine zr_vi (pc := 10) (As := [.int (zI (c)), .int (zI (g 3)), .int (zI (1))]) (rest := []) S (ct_X1_overlapping l D cI cT ad σ g hR hI c (g 3) 1 (by omega) (by omega) (by omega) (by omega) (by omega) (by omega)) (cwV 3 hts gX4_isAway_X1_overlapping rfl rfl rfl (by decide +kernel) ⟨Nat.le_of_ble_eq_true rfl, Nat.le_of_ble_eq_true rfl⟩) zs0 hK hP (zr_recv hK (hP 3 (by decide)) rfl) rfl hl.1 rfl (Nat.le_of_ble_eq_true rfl) dX4_isAway_10 ⟨Nat.le_of_ble_eq_true rfl, Nat.le_of_ble_eq_true rfl⟩ (fun r_10 hr_10 => ?_)
  rcases hr_10 with ⟨rfl, hn_10⟩ | ⟨h_10, hh_10, hi_10, ho_10, rfl⟩
  · refine zr_if_lt (pc := 13) (tgt := 20) hx hb dX4_isAway_13 (by decide) (by decide) (fun _ => ?_) (fun z => absurd z (by decide))
    refine lv_iconst (pc := 20) (v := zI 0) hx hb dX4_isAway_20 rfl ?_
    exact W.zret (ty := .boolean) (v := zI (0)) hx hb hr (by first | rfl | decide) (fun tz ht hW => ⟨_, rfl, bz_f hn_10, ht⟩) (fun _ h => by cases h) dX4_isAway_21
  · refine zr_if_lt (pc := 13) (tgt := 20) hx hb dX4_isAway_13 (by decide) (by omega) (fun c_13 => ?_) (fun c_13 => ?_)
    · exact absurd c_13 (by omega)
    · refine lv_iconst (pc := 16) (v := zI 1) hx hb dX4_isAway_16 rfl ?_
      refine lv_goto (pc := 17) (tgt := 21) hx hb dX4_isAway_17 (by decide) ?_
      exact W.zret (ty := .boolean) (v := zI (1)) hx hb hr (by first | rfl | decide) (fun tz ht hW => ⟨_, rfl, bz_t ⟨h_10, hh_10, hi_10, ho_10⟩, ht⟩) (fun _ h => by cases h) dX4_isAway_21
set_option maxHeartbeats 4000000 in
set_option maxRecDepth 100000 in
theorem ct_X4_awayToday (l : Launch) (D : va_G) (cI cT : ClassId) (ad : Nat → Nat) (σ : Nat → Int → Int) (g : Int → Int) (hR : Rel σ g) (hI : Inv g)   : zMr l yX4_awayToday wsX4_awayToday ({ frames := 4, cells := 0, slots := 0, locals := 87 }) D cI cT [.ref (ad 0)] (fun _ H => zW D ad 20 (sC cI ad σ) H) (fun r => r = zI (aset g (g 0).toNat)) := by
  refine Met.ofW (cc := cX4_awayToday) (maxL := 3) (ret := (some .int)) (by decide) rfl ?_
  intro p_ e_ s m_ args below meth c_ s₁ B hml hv
  obtain ⟨rfl, hK, hF⟩ := hv
  have hx := B.exec
  have hb := B.bytes
  have hr := B.returns
  have hts := atoms_spec (ws := wsX4_awayToday) B.pre
  have hown : s.vm.findClass RX4 = some m_.cls := findClass_of_methodNamed B.named
  have hlocks := B.notSynchronized
  have S : CallFix p_ m_ c_ cX4_awayToday 3 s _ wsX4_awayToday RX4 := ⟨hx, hb, hml, hown, hts⟩
  have i_X4 : ∀ w ∈ u_ws RX4 TX4 9, w ∈ wsX4_awayToday := fun _ h => List.mem_cons_of_mem _ (List.mem_append_left _ (List.mem_append_left _ (List.mem_append_right _ h)))
  have i_X6 : ∀ w ∈ u_ws RX6 TX6 9, w ∈ wsX4_awayToday := fun _ h => List.mem_cons_of_mem _ (List.mem_append_left _ (List.mem_append_right _ h))
  have hP := hF
  have hnC := iv_nC hI
  have hl := lv_entry ([.ref (ad 0)]) (n := 3) (Nat.le_of_ble_eq_true rfl)
  rw [lg_entry_eq]
  generalize (lg_sl ([.ref (ad 0)]) ++ List.replicate (3 - (lg_sl ([.ref (ad 0)])).length) Slot.unset).toArray = ls at hl ⊢
  have hl : lv_has ls 3 [(0, .ref (ad 0))] := hl
  refine lv_iconst (pc := 0) (v := zI 0) hx hb dX4_awayToday_0 rfl ?_
  refine lv_istore_n (pc := 1) (lv' := [(1, .int (zI (0))), (0, .ref (ad 0))]) hx hb dX4_awayToday_1 rfl hl (by decide) rfl (fun ls hl => ?_)
  refine lv_iconst (pc := 2) (v := zI 0) hx hb dX4_awayToday_2 rfl ?_
  refine lv_istore_n (pc := 3) (lv' := [(2, .int (zI (0))), (1, .int (zI (0))), (0, .ref (ad 0))]) hx hb dX4_awayToday_3 rfl hl (by decide) rfl (fun ls hl => ?_)
  refine zr_loop2 (fun (i : Nat) (x : Int) => ((i : Int) ≤ g 0) ∧ (x = aset g i)) (fun (i : Nat) (x : Int) => (g 0 : Int).toNat - i) (fun (i : Nat) (x : Int) => [(0, .ref (ad 0)), (1, .int (zI (x))), (2, .int (zI ((i : Int))))]) ?_ (0) (0) (⟨by omega, rfl⟩) (lv_sub hl [2, 1, 0] rfl)
  intro i x hinv ih_4 ls hl
  obtain ⟨h_i, h_x⟩ := hinv
  have hbd := aset_bd g i
  refine lv_iload_n (pc := 4) hx hb dX4_awayToday_4 rfl (lv_at hl 2 rfl) ?_
  refine lv_aload_n (pc := 5) hx hb dX4_awayToday_5 rfl (lv_at hl 0 rfl) ?_
  refine zr_get (pc := 6) S hK (hP 0 (by decide)) rfl i_X4 0 (by decide) (List.mem_of_getElem? (i := 1) rfl) rfl dX4_awayToday_6 ?_
  refine zr_get (pc := 9) S hK (hP 1 (by decide)) rfl i_X6 0 (by decide) (List.mem_of_getElem? (i := 2) rfl) rfl dX4_awayToday_9 ?_
  refine zr_top (b := g 0) (rl_nC hR) ?_
  refine zr_icmp_ge (pc := 12) (tgt := 35) hx hb dX4_awayToday_12 (by decide) (by omega) (by omega) (fun c_12 => ?_) (fun c_12 => ?_)
  · refine lv_iload_n (pc := 35) hx hb dX4_awayToday_35 rfl (lv_at hl 1 rfl) ?_
    exact W.iret (v := zI (x)) hx hb hr (fun tz ht hW => ⟨_, rfl, congrArg zI (by rw [h_x, show i = (g 0).toNat by omega]), ht⟩) (fun _ h => by cases h) dX4_awayToday_36
  · refine lv_aload_n (pc := 15) hx hb dX4_awayToday_15 rfl (lv_at hl 0 rfl) ?_
    refine lv_iload_n (pc := 16) hx hb dX4_awayToday_16 rfl (lv_at hl 2 rfl) ?_
    refine zr_vi (pc := 17) (As := [.int (zI ((i : Int)))]) (rest := []) S (ct_X4_isAway l D cI cT ad σ g hR hI ((i : Int)) (by omega) (by omega)) (cwV 1 hts gX4_awayToday_X4_isAway rfl rfl rfl (by decide +kernel) ⟨Nat.le_of_ble_eq_true rfl, Nat.le_of_ble_eq_true rfl⟩) zs0 hK hP (zr_recv hK (hP 0 (by decide)) rfl) rfl hl.1 rfl (Nat.le_of_ble_eq_true rfl) dX4_awayToday_17 ⟨Nat.le_of_ble_eq_true rfl, Nat.le_of_ble_eq_true rfl⟩ (fun r_17 hr_17 => ?_)
    rcases hr_17 with ⟨hb_17, rfl⟩ | ⟨hb_17, rfl⟩
    · refine zr_if_eq (pc := 20) (tgt := 29) hx hb dX4_awayToday_20 (by decide) (by decide) (fun z => absurd z (by decide)) (fun _ => ?_)
      refine lv_iload_n (pc := 23) hx hb dX4_awayToday_23 rfl (lv_at hl 1 rfl) ?_
      refine lv_iconst (pc := 24) (v := zI 1) hx hb dX4_awayToday_24 rfl ?_
      refine lv_iload_n (pc := 25) hx hb dX4_awayToday_25 rfl (lv_at hl 2 rfl) ?_
      refine zr_ishl (pc := 26) (d := pw i) hx hb dX4_awayToday_26 (zi_pw (by omega) (by omega)) ?_
      refine zr_ior (pc := 27) (d := x + pw i) hx hb dX4_awayToday_27 (zi_or (by omega) (by omega) (by omega) (by omega)) ?_
      refine lv_istore_n (pc := 28) (lv' := [(1, .int (zI (x + pw i))), (0, .ref (ad 0)), (2, .int (zI ((i : Int))))]) hx hb dX4_awayToday_28 rfl hl (by decide) rfl (fun ls hl => ?_)
      refine zr_iinc (pc := 29) (d := ((i : Int)) + 1) (lv' := [(2, .int (zI (((i : Int)) + 1))), (1, .int (zI (x + pw i))), (0, .ref (ad 0))]) hx hb dX4_awayToday_29 hl (k := 2) rfl rfl (by decide) rfl (fun ls hl => ?_)
      refine lv_goto (pc := 32) (tgt := 4) hx hb dX4_awayToday_32 (by decide) ?_
      exact ih_4 (i + 1) ((x + pw i)) (⟨by omega, by rw [aset_s]; first | (rw [ti_t hb_17]; omega) | (rw [ti_f hb_17]; omega)⟩) (by omega) ls (lv_sub hl [2, 1, 0] rfl)
    · refine zr_if_eq (pc := 20) (tgt := 29) hx hb dX4_awayToday_20 (by decide) (by decide) (fun _ => ?_) (fun z => absurd z (by decide))
      refine zr_iinc (pc := 29) (d := ((i : Int)) + 1) (lv' := [(2, .int (zI (((i : Int)) + 1))), (0, .ref (ad 0)), (1, .int (zI (x)))]) hx hb dX4_awayToday_29 hl (k := 2) rfl rfl (by decide) rfl (fun ls hl => ?_)
      refine lv_goto (pc := 32) (tgt := 4) hx hb dX4_awayToday_32 (by decide) ?_
      exact ih_4 (i + 1) (x) (⟨by omega, by rw [aset_s]; first | (rw [ti_t hb_17]; omega) | (rw [ti_f hb_17]; omega)⟩) (by omega) ls (lv_sub hl [1, 2, 0] rfl)
set_option maxHeartbeats 4000000 in
set_option maxRecDepth 100000 in
theorem ct_X4_isTooDirty (l : Launch) (D : va_G) (cI cT : ClassId) (ad : Nat → Nat) (σ : Nat → Int → Int) (g : Int → Int) (hR : Rel σ g) (hI : Inv g) (c : Int) (h0 : 0 ≤ c) (h1 : c < g 0) : zMr l yX4_isTooDirty wsX4_isTooDirty ({ frames := 1, cells := 0, slots := 0, locals := 21 }) D cI cT [.ref (ad 0), .int (zI (c))] (fun _ H => zW D ad 20 (sC cI ad σ) H) (fun r => bz (gS g 3 ≤ gC g c 6) r) := by
  refine Met.ofW (cc := cX4_isTooDirty) (maxL := 2) (ret := (some .boolean)) (by decide) rfl ?_
  intro p_ e_ s m_ args below meth c_ s₁ B hml hv
  obtain ⟨rfl, hK, hF⟩ := hv
  have hx := B.exec
  have hb := B.bytes
  have hr := B.returns
  have hts := atoms_spec (ws := wsX4_isTooDirty) B.pre
  have hown : s.vm.findClass RX4 = some m_.cls := findClass_of_methodNamed B.named
  have hlocks := B.notSynchronized
  have S : CallFix p_ m_ c_ cX4_isTooDirty 2 s _ wsX4_isTooDirty RX4 := ⟨hx, hb, hml, hown, hts⟩
  have i_X4 : ∀ w ∈ u_ws RX4 TX4 9, w ∈ wsX4_isTooDirty := fun _ h => List.mem_cons_of_mem _ (List.mem_append_left _ (List.mem_append_right _ h))
  have i_X6 : ∀ w ∈ u_ws RX6 TX6 9, w ∈ wsX4_isTooDirty := fun _ h => List.mem_cons_of_mem _ (List.mem_append_right _ h)
  have hP := hF
  have hnC := iv_nC hI
  have hdi := iv_di hI h0 h1
  have hdl := iv_dl hI
  have hl := lv_entry ([.ref (ad 0), .int (zI (c))]) (n := 2) (Nat.le_of_ble_eq_true rfl)
  rw [lg_entry_eq]
  generalize (lg_sl ([.ref (ad 0), .int (zI (c))]) ++ List.replicate (2 - (lg_sl ([.ref (ad 0), .int (zI (c))])).length) Slot.unset).toArray = ls at hl ⊢
  have hl : lv_has ls 2 [(0, .ref (ad 0)), (1, .int (zI (c)))] := hl
  refine lv_aload_n (pc := 0) hx hb dX4_isTooDirty_0 rfl (lv_at hl 0 rfl) ?_
  refine zr_get (pc := 1) S hK (hP 0 (by decide)) rfl i_X4 0 (by decide) (List.mem_of_getElem? (i := 1) rfl) rfl dX4_isTooDirty_1 ?_
  refine zr_get (pc := 4) S hK (hP 1 (by decide)) rfl i_X6 5 (by decide) (List.mem_of_getElem? (i := 2) rfl) rfl dX4_isTooDirty_4 ?_
  refine lv_iload_n (pc := 7) hx hb dX4_isTooDirty_7 rfl (lv_at hl 1 rfl) ?_
  refine zr_ni (pc := 8) (As := [.ref (ad 9), .int (zI (c))]) (rest := []) S (ct_X7_at l D cI cT (ad 9) 16 _ c (gC g c 6) (by decide) (by omega) (by omega) (rl_di hR h0 h1) (by omega)) (va_cnB 2 hts gX4_isTooDirty_X7_at_n80 rfl rfl rfl (zK_nest hK 19 rfl) (hts _ (List.mem_of_getElem? (i := 5) rfl)) (by decide +kernel) ⟨Nat.le_of_ble_eq_true rfl, Nat.le_of_ble_eq_true rfl⟩) (hts _ (List.mem_of_getElem? (i := 4) rfl)) zs_ar hK (zAr_of (zK_int hK) (hP 9 (by decide))) rfl hl.1 rfl (Nat.le_of_ble_eq_true rfl) dX4_isTooDirty_8 ⟨Nat.le_of_ble_eq_true rfl, Nat.le_of_ble_eq_true rfl⟩ (fun r_8 hr_8 => ?_)
  subst hr_8
  refine lv_aload_n (pc := 11) hx hb dX4_isTooDirty_11 rfl (lv_at hl 0 rfl) ?_
  refine zr_get (pc := 12) S hK (hP 0 (by decide)) rfl i_X4 3 (by decide) (List.mem_of_getElem? (i := 3) rfl) rfl dX4_isTooDirty_12 ?_
  refine lv_iconst (pc := 15) (v := zI 3) hx hb dX4_isTooDirty_15 rfl ?_
  refine zr_ni (pc := 16) (As := [.ref (ad 4), .int (zI (3))]) (rest := [.int (zI (gC g c 6))]) S (ct_X7_at l D cI cT (ad 4) 4 _ 3 (gS g 3) (by decide) (by decide) (by decide) (rl_se hR (by decide) (by decide)) (by decide)) (va_cnB 2 hts gX4_isTooDirty_X7_at_n80 rfl rfl rfl (zK_nest hK 19 rfl) (hts _ (List.mem_of_getElem? (i := 5) rfl)) (by decide +kernel) ⟨Nat.le_of_ble_eq_true rfl, Nat.le_of_ble_eq_true rfl⟩) (hts _ (List.mem_of_getElem? (i := 4) rfl)) zs_ar hK (zAr_of (zK_int hK) (hP 4 (by decide))) rfl hl.1 rfl (Nat.le_of_ble_eq_true rfl) dX4_isTooDirty_16 ⟨Nat.le_of_ble_eq_true rfl, Nat.le_of_ble_eq_true rfl⟩ (fun r_16 hr_16 => ?_)
  subst hr_16
  refine zr_icmp_lt (pc := 19) (tgt := 26) hx hb dX4_isTooDirty_19 (by decide) (by omega) (by omega) (fun c_19 => ?_) (fun c_19 => ?_)
  · refine lv_iconst (pc := 26) (v := zI 0) hx hb dX4_isTooDirty_26 rfl ?_
    exact W.zret (ty := .boolean) (v := zI (0)) hx hb hr (by first | rfl | decide) (fun tz ht hW => ⟨_, rfl, bz_f (by omega), ht⟩) (fun _ h => by cases h) dX4_isTooDirty_27
  · refine lv_iconst (pc := 22) (v := zI 1) hx hb dX4_isTooDirty_22 rfl ?_
    refine lv_goto (pc := 23) (tgt := 27) hx hb dX4_isTooDirty_23 (by decide) ?_
    exact W.zret (ty := .boolean) (v := zI (1)) hx hb hr (by first | rfl | decide) (fun tz ht hW => ⟨_, rfl, bz_t (by omega), ht⟩) (fun _ h => by cases h) dX4_isTooDirty_27
set_option maxHeartbeats 4000000 in
set_option maxRecDepth 100000 in
theorem ct_X4_lackOf (l : Launch) (D : va_G) (cI cT : ClassId) (ad : Nat → Nat) (σ : Nat → Int → Int) (g : Int → Int) (hR : Rel σ g) (hI : Inv g) (c : Int) (a : Int) (m : Int) (h0 : 0 ≤ c) (h1 : c < g 0) (a0 : 0 ≤ a) (a1 : a < g 1) (m0 : 0 ≤ m) (m1 : m < 3) : zMr l yX4_lackOf wsX4_lackOf ({ frames := 3, cells := 0, slots := 0, locals := 69 }) D cI cT [.ref (ad 0), .int (zI (c)), .int (zI (a)), .int (zI (m))] (fun _ H => zW D ad 20 (sC cI ad σ) H) (fun r => r = zI (lack g c a m)) := by
  refine Met.ofW (cc := cX4_lackOf) (maxL := 7) (ret := (some .int)) (by decide) rfl ?_
  intro p_ e_ s m_ args below meth c_ s₁ B hml hv
  obtain ⟨rfl, hK, hF⟩ := hv
  have hx := B.exec
  have hb := B.bytes
  have hr := B.returns
  have hts := atoms_spec (ws := wsX4_lackOf) B.pre
  have hown : s.vm.findClass RX4 = some m_.cls := findClass_of_methodNamed B.named
  have hlocks := B.notSynchronized
  have S : CallFix p_ m_ c_ cX4_lackOf 7 s _ wsX4_lackOf RX4 := ⟨hx, hb, hml, hown, hts⟩
  have i_X4 : ∀ w ∈ u_ws RX4 TX4 9, w ∈ wsX4_lackOf := fun _ h => List.mem_cons_of_mem _ (List.mem_append_left _ (List.mem_append_left _ (List.mem_append_right _ h)))
  have hP := hF
  have hnC := iv_nC hI
  have hnA := iv_nA hI
  have hme := iv_me hI a0 a1 m0 m1
  have hes := iv_es hI m0 m1
  have hl := lv_entry ([.ref (ad 0), .int (zI (c)), .int (zI (a)), .int (zI (m))]) (n := 7) (Nat.le_of_ble_eq_true rfl)
  rw [lg_entry_eq]
  generalize (lg_sl ([.ref (ad 0), .int (zI (c)), .int (zI (a)), .int (zI (m))]) ++ List.replicate (7 - (lg_sl ([.ref (ad 0), .int (zI (c)), .int (zI (a)), .int (zI (m))])).length) Slot.unset).toArray = ls at hl ⊢
  have hl : lv_has ls 7 [(0, .ref (ad 0)), (1, .int (zI (c))), (2, .int (zI (a))), (3, .int (zI (m)))] := hl
  refine lv_aload_n (pc := 0) hx hb dX4_lackOf_0 rfl (lv_at hl 0 rfl) ?_
  refine zr_get (pc := 1) S hK (hP 0 (by decide)) rfl i_X4 0 (by decide) (List.mem_of_getElem? (i := 1) rfl) rfl dX4_lackOf_1 ?_
  refine lv_iload_n (pc := 4) hx hb dX4_lackOf_4 rfl (lv_at hl 1 rfl) ?_
  refine lv_iload_n (pc := 5) hx hb dX4_lackOf_5 rfl (lv_at hl 3 rfl) ?_
  refine zr_vi (pc := 6) (As := [.int (zI (c)), .int (zI (m))]) (rest := []) S (ct_X6_present l D cI cT ad σ g hR hI c m (by omega) (by omega) (by omega) (by omega)) (cwV 2 hts gX4_lackOf_X6_present rfl rfl rfl (by decide +kernel) ⟨Nat.le_of_ble_eq_true rfl, Nat.le_of_ble_eq_true rfl⟩) zs0 hK hP (zr_recv hK (hP 1 (by decide)) rfl) rfl hl.1 rfl (Nat.le_of_ble_eq_true rfl) dX4_lackOf_6 ⟨Nat.le_of_ble_eq_true rfl, Nat.le_of_ble_eq_true rfl⟩ (fun r_6 hr_6 => ?_)
  subst hr_6
  have hp_6 := pres_bd hI (c := c) (m := m) (by omega) (by omega) (by omega) (by omega)
  refine lv_istore (pc := 9) (lv' := [(4, .int (zI (pres g c m))), (0, .ref (ad 0)), (1, .int (zI (c))), (2, .int (zI (a))), (3, .int (zI (m)))]) hx hb dX4_lackOf_9 hl (by decide) rfl (fun ls hl => ?_)
  refine lv_aload_n (pc := 11) hx hb dX4_lackOf_11 rfl (lv_at hl 1 rfl) ?_
  refine zr_get (pc := 12) S hK (hP 0 (by decide)) rfl i_X4 1 (by decide) (List.mem_of_getElem? (i := 2) rfl) rfl dX4_lackOf_12 ?_
  refine lv_iload_n (pc := 15) hx hb dX4_lackOf_15 rfl (lv_at hl 3 rfl) ?_
  refine lv_iload_n (pc := 16) hx hb dX4_lackOf_16 rfl (lv_at hl 4 rfl) ?_
  refine zr_vi (pc := 17) (As := [.int (zI (a)), .int (zI (m))]) (rest := []) S (ct_X0_measureOf l D cI cT ad σ g hR hI a m (by omega) (by omega) (by omega) (by omega)) (cwV 2 hts gX4_lackOf_X0_measureOf rfl rfl rfl (by decide +kernel) ⟨Nat.le_of_ble_eq_true rfl, Nat.le_of_ble_eq_true rfl⟩) zs0 hK hP (zr_recv hK (hP 2 (by decide)) rfl) rfl hl.1 rfl (Nat.le_of_ble_eq_true rfl) dX4_lackOf_17 ⟨Nat.le_of_ble_eq_true rfl, Nat.le_of_ble_eq_true rfl⟩ (fun r_17 hr_17 => ?_)
  subst hr_17
  refine lv_istore (pc := 20) (lv' := [(5, .int (zI (gA g a m))), (4, .int (zI (pres g c m))), (0, .ref (ad 0)), (1, .int (zI (c))), (2, .int (zI (a))), (3, .int (zI (m)))]) hx hb dX4_lackOf_20 hl (by decide) rfl (fun ls hl => ?_)
  refine lv_iload (pc := 22) hx hb dX4_lackOf_22 (lv_at hl 0 rfl) ?_
  refine lv_aload_n (pc := 24) hx hb dX4_lackOf_24 rfl (lv_at hl 2 rfl) ?_
  refine zr_get (pc := 25) S hK (hP 0 (by decide)) rfl i_X4 3 (by decide) (List.mem_of_getElem? (i := 3) rfl) rfl dX4_lackOf_25 ?_
  refine lv_iload_n (pc := 28) hx hb dX4_lackOf_28 rfl (lv_at hl 5 rfl) ?_
  refine zr_ni (pc := 29) (As := [.ref (ad 4), .int (zI (m))]) (rest := [.int (zI (gA g a m))]) S (ct_X7_at l D cI cT (ad 4) 4 _ m (gS g m) (by decide) (by omega) (by omega) (rl_se hR m0 (by omega)) (by omega)) (va_cnB 2 hts gX4_lackOf_X7_at_n80 rfl rfl rfl (zK_nest hK 19 rfl) (hts _ (List.mem_of_getElem? (i := 18) rfl)) (by decide +kernel) ⟨Nat.le_of_ble_eq_true rfl, Nat.le_of_ble_eq_true rfl⟩) (hts _ (List.mem_of_getElem? (i := 17) rfl)) zs_ar hK (zAr_of (zK_int hK) (hP 4 (by decide))) rfl hl.1 rfl (Nat.le_of_ble_eq_true rfl) dX4_lackOf_29 ⟨Nat.le_of_ble_eq_true rfl, Nat.le_of_ble_eq_true rfl⟩ (fun r_29 hr_29 => ?_)
  subst hr_29
  refine zr_iadd (pc := 32) (d := (gA g a m) + (gS g m)) hx hb dX4_lackOf_32 rfl ?_
  refine lv_istore (pc := 33) (lv' := [(6, .int (zI ((gA g a m) + (gS g m)))), (5, .int (zI (gA g a m))), (4, .int (zI (pres g c m))), (0, .ref (ad 0)), (1, .int (zI (c))), (2, .int (zI (a))), (3, .int (zI (m)))]) hx hb dX4_lackOf_33 hl (by decide) rfl (fun ls hl => ?_)
  refine lv_iload (pc := 35) hx hb dX4_lackOf_35 (lv_at hl 2 rfl) ?_
  refine lv_iload (pc := 37) hx hb dX4_lackOf_37 (lv_at hl 1 rfl) ?_
  refine zr_icmp_ge (pc := 39) (tgt := 48) hx hb dX4_lackOf_39 (by decide) (by omega) (by omega) (fun c_39 => ?_) (fun c_39 => ?_)
  · refine lv_iload (pc := 48) hx hb dX4_lackOf_48 (lv_at hl 2 rfl) ?_
    refine lv_iload (pc := 50) hx hb dX4_lackOf_50 (lv_at hl 0 rfl) ?_
    refine zr_icmp_le (pc := 52) (tgt := 63) hx hb dX4_lackOf_52 (by decide) (by omega) (by omega) (fun c_52 => ?_) (fun c_52 => ?_)
    · refine lv_iconst (pc := 63) (v := zI 0) hx hb dX4_lackOf_63 rfl ?_
      exact W.iret (v := zI (0)) hx hb hr (fun tz ht hW => ⟨_, rfl, congrArg zI (by show _ = lk _ _ _; first | exact (lk_lo c_39).symm | exact (lk_hi c_39 c_52).symm | exact (lk_in c_39 c_52).symm), ht⟩) (fun _ h => by cases h) dX4_lackOf_64
    · refine lv_iload (pc := 55) hx hb dX4_lackOf_55 (lv_at hl 0 rfl) ?_
      refine lv_iload (pc := 57) hx hb dX4_lackOf_57 (lv_at hl 2 rfl) ?_
      refine zr_isub (pc := 59) (d := ((gA g a m) + (gS g m)) - (pres g c m)) hx hb dX4_lackOf_59 rfl ?_
      refine lv_goto (pc := 60) (tgt := 64) hx hb dX4_lackOf_60 (by decide) ?_
      exact W.iret (v := zI (((gA g a m) + (gS g m)) - (pres g c m))) hx hb hr (fun tz ht hW => ⟨_, rfl, congrArg zI (by show _ = lk _ _ _; first | exact (lk_lo c_39).symm | exact (lk_hi c_39 c_52).symm | exact (lk_in c_39 c_52).symm), ht⟩) (fun _ h => by cases h) dX4_lackOf_64
  · refine lv_iload (pc := 42) hx hb dX4_lackOf_42 (lv_at hl 1 rfl) ?_
    refine lv_iload (pc := 44) hx hb dX4_lackOf_44 (lv_at hl 2 rfl) ?_
    refine zr_isub (pc := 46) (d := (gA g a m) - (pres g c m)) hx hb dX4_lackOf_46 rfl ?_
    exact W.iret (v := zI ((gA g a m) - (pres g c m))) hx hb hr (fun tz ht hW => ⟨_, rfl, congrArg zI (by show _ = lk _ _ _; first | exact (lk_lo c_39).symm | exact (lk_hi c_39 c_52).symm | exact (lk_in c_39 c_52).symm), ht⟩) (fun _ h => by cases h) dX4_lackOf_47
set_option maxHeartbeats 4000000 in
set_option maxRecDepth 100000 in
theorem ct_X4_misfitOf (l : Launch) (D : va_G) (cI cT : ClassId) (ad : Nat → Nat) (σ : Nat → Int → Int) (g : Int → Int) (hR : Rel σ g) (hI : Inv g) (c : Int) (a : Int) (h0 : 0 ≤ c) (h1 : c < g 0) (a0 : 0 ≤ a) (a1 : a < g 1) : zMr l yX4_misfitOf wsX4_misfitOf ({ frames := 4, cells := 0, slots := 0, locals := 95 }) D cI cT [.ref (ad 0), .int (zI (c)), .int (zI (a))] (fun _ H => zW D ad 20 (sC cI ad σ) H) (fun r => r = zI (mis g c a)) := by
  refine Met.ofW (cc := cX4_misfitOf) (maxL := 5) (ret := (some .int)) (by decide) rfl ?_
  intro p_ e_ s m_ args below meth c_ s₁ B hml hv
  obtain ⟨rfl, hK, hF⟩ := hv
  have hx := B.exec
  have hb := B.bytes
  have hr := B.returns
  have hts := atoms_spec (ws := wsX4_misfitOf) B.pre
  have hown : s.vm.findClass RX4 = some m_.cls := findClass_of_methodNamed B.named
  have hlocks := B.notSynchronized
  have S : CallFix p_ m_ c_ cX4_misfitOf 5 s _ wsX4_misfitOf RX4 := ⟨hx, hb, hml, hown, hts⟩
  have hP := hF
  have hnC := iv_nC hI
  have hnA := iv_nA hI
  have hl := lv_entry ([.ref (ad 0), .int (zI (c)), .int (zI (a))]) (n := 5) (Nat.le_of_ble_eq_true rfl)
  rw [lg_entry_eq]
  generalize (lg_sl ([.ref (ad 0), .int (zI (c)), .int (zI (a))]) ++ List.replicate (5 - (lg_sl ([.ref (ad 0), .int (zI (c)), .int (zI (a))])).length) Slot.unset).toArray = ls at hl ⊢
  have hl : lv_has ls 5 [(0, .ref (ad 0)), (1, .int (zI (c))), (2, .int (zI (a)))] := hl
  refine lv_iconst (pc := 0) (v := zI 0) hx hb dX4_misfitOf_0 rfl ?_
  refine lv_istore_n (pc := 1) (lv' := [(3, .int (zI (0))), (0, .ref (ad 0)), (1, .int (zI (c))), (2, .int (zI (a)))]) hx hb dX4_misfitOf_1 rfl hl (by decide) rfl (fun ls hl => ?_)
  refine lv_iconst (pc := 2) (v := zI 0) hx hb dX4_misfitOf_2 rfl ?_
  refine lv_istore (pc := 3) (lv' := [(4, .int (zI (0))), (3, .int (zI (0))), (0, .ref (ad 0)), (1, .int (zI (c))), (2, .int (zI (a)))]) hx hb dX4_misfitOf_3 hl (by decide) rfl (fun ls hl => ?_)
  refine zr_loop2 (fun (i : Nat) (x : Int) => ((i : Int) ≤ 3) ∧ (x = sm (fun m => zabs (lack g c a m)) i)) (fun (i : Nat) (x : Int) => (3 : Int).toNat - i) (fun (i : Nat) (x : Int) => [(0, .ref (ad 0)), (1, .int (zI (c))), (2, .int (zI (a))), (3, .int (zI (x))), (4, .int (zI ((i : Int))))]) ?_ (0) (0) (⟨by omega, by rw [sm_0]⟩) (lv_sub hl [2, 3, 4, 1, 0] rfl)
  intro i x hinv ih_5 ls hl
  obtain ⟨h_i, h_x⟩ := hinv
  refine lv_iload (pc := 5) hx hb dX4_misfitOf_5 (lv_at hl 4 rfl) ?_
  refine lv_iconst (pc := 7) (v := zI 3) hx hb dX4_misfitOf_7 rfl ?_
  refine zr_icmp_ge (pc := 8) (tgt := 31) hx hb dX4_misfitOf_8 (by decide) (by omega) (by decide) (fun c_8 => ?_) (fun c_8 => ?_)
  · refine lv_iload_n (pc := 31) hx hb dX4_misfitOf_31 rfl (lv_at hl 3 rfl) ?_
    exact W.iret (v := zI (x)) hx hb hr (fun tz ht hW => ⟨_, rfl, congrArg zI (by rw [h_x, show i = 3 by omega, mis]), ht⟩) (fun _ h => by cases h) dX4_misfitOf_32
  · refine lv_iload_n (pc := 11) hx hb dX4_misfitOf_11 rfl (lv_at hl 3 rfl) ?_
    refine lv_aload_n (pc := 12) hx hb dX4_misfitOf_12 rfl (lv_at hl 0 rfl) ?_
    refine lv_iload_n (pc := 13) hx hb dX4_misfitOf_13 rfl (lv_at hl 1 rfl) ?_
    refine lv_iload_n (pc := 14) hx hb dX4_misfitOf_14 rfl (lv_at hl 2 rfl) ?_
    refine lv_iload (pc := 15) hx hb dX4_misfitOf_15 (lv_at hl 4 rfl) ?_
    refine zr_vi (pc := 17) (As := [.int (zI (c)), .int (zI (a)), .int (zI ((i : Int)))]) (rest := [.int (zI (x))]) S (ct_X4_lackOf l D cI cT ad σ g hR hI c a ((i : Int)) (by omega) (by omega) (by omega) (by omega) (by omega) (by omega)) (cwV 3 hts gX4_misfitOf_X4_lackOf rfl rfl rfl (by decide +kernel) ⟨Nat.le_of_ble_eq_true rfl, Nat.le_of_ble_eq_true rfl⟩) zs0 hK hP (zr_recv hK (hP 0 (by decide)) rfl) rfl hl.1 rfl (Nat.le_of_ble_eq_true rfl) dX4_misfitOf_17 ⟨Nat.le_of_ble_eq_true rfl, Nat.le_of_ble_eq_true rfl⟩ (fun r_17 hr_17 => ?_)
    subst hr_17
    have hl_17 := lack_bd hI (c := c) (a := a) (m := ((i : Int))) (by omega) (by omega) (by omega) (by omega) (by omega) (by omega)
    have hz_17 := zabs_bd hl_17
    refine zr_mabs (pc := 20) hx hb (hml.trans hl.1.symm) hown (hts _ (List.mem_of_getElem? (i := 1) rfl)) (hts _ (List.mem_of_getElem? (i := 2) rfl)) (hts _ (List.mem_of_getElem? (i := 3) rfl)) (hts _ (List.mem_of_getElem? (i := 4) rfl)) (Nat.le_of_ble_eq_true rfl) (Nat.le_of_ble_eq_true rfl) (Nat.le_of_ble_eq_true rfl) (Nat.le_of_ble_eq_true rfl) dX4_misfitOf_20 (by omega) (rfl : _ = zabs (lack g c a ((i : Int)))) ?_
    refine zr_iadd (pc := 23) (d := x + (zabs (lack g c a ((i : Int))))) hx hb dX4_misfitOf_23 rfl ?_
    refine lv_istore_n (pc := 24) (lv' := [(3, .int (zI (x + (zabs (lack g c a ((i : Int))))))), (0, .ref (ad 0)), (1, .int (zI (c))), (2, .int (zI (a))), (4, .int (zI ((i : Int))))]) hx hb dX4_misfitOf_24 rfl hl (by decide) rfl (fun ls hl => ?_)
    refine zr_iinc (pc := 25) (d := ((i : Int)) + 1) (lv' := [(4, .int (zI (((i : Int)) + 1))), (3, .int (zI (x + (zabs (lack g c a ((i : Int))))))), (0, .ref (ad 0)), (1, .int (zI (c))), (2, .int (zI (a)))]) hx hb dX4_misfitOf_25 hl (k := 4) rfl rfl (by decide) rfl (fun ls hl => ?_)
    refine lv_goto (pc := 28) (tgt := 5) hx hb dX4_misfitOf_28 (by decide) ?_
    exact ih_5 (i + 1) ((x + (zabs (lack g c a ((i : Int)))))) (⟨by omega, by rw [sm_s]; omega⟩) (by omega) ls (lv_sub hl [2, 3, 4, 1, 0] rfl)
set_option maxHeartbeats 4000000 in
set_option maxRecDepth 100000 in
theorem ct_X4_leastChange (l : Launch) (D : va_G) (cI cT : ClassId) (ad : Nat → Nat) (σ : Nat → Int → Int) (g : Int → Int) (hR : Rel σ g) (hI : Inv g) (c : Int) (a : Int) (h0 : 0 ≤ c) (h1 : c < g 0) (a0 : 0 ≤ a) (a1 : a < g 1) : zMr l yX4_leastChange wsX4_leastChange ({ frames := 4, cells := 0, slots := 0, locals := 95 }) D cI cT [.ref (ad 0), .int (zI (c)), .int (zI (a))] (fun _ H => zW D ad 20 (sC cI ad σ) H) (fun r => r = zI (lst g c a)) := by
  refine Met.ofW (cc := cX4_leastChange) (maxL := 7) (ret := (some .int)) (by decide) rfl ?_
  intro p_ e_ s m_ args below meth c_ s₁ B hml hv
  obtain ⟨rfl, hK, hF⟩ := hv
  have hx := B.exec
  have hb := B.bytes
  have hr := B.returns
  have hts := atoms_spec (ws := wsX4_leastChange) B.pre
  have hown : s.vm.findClass RX4 = some m_.cls := findClass_of_methodNamed B.named
  have hlocks := B.notSynchronized
  have S : CallFix p_ m_ c_ cX4_leastChange 7 s _ wsX4_leastChange RX4 := ⟨hx, hb, hml, hown, hts⟩
  have i_X4 : ∀ w ∈ u_ws RX4 TX4 9, w ∈ wsX4_leastChange := fun _ h => List.mem_cons_of_mem _ (List.mem_append_left _ (List.mem_append_left _ (List.mem_append_right _ h)))
  have hP := hF
  have hnC := iv_nC hI
  have hnA := iv_nA hI
  have hna := iv_na hI h0 h1
  have hl := lv_entry ([.ref (ad 0), .int (zI (c)), .int (zI (a))]) (n := 7) (Nat.le_of_ble_eq_true rfl)
  rw [lg_entry_eq]
  generalize (lg_sl ([.ref (ad 0), .int (zI (c)), .int (zI (a))]) ++ List.replicate (7 - (lg_sl ([.ref (ad 0), .int (zI (c)), .int (zI (a))])).length) Slot.unset).toArray = ls at hl ⊢
  have hl : lv_has ls 7 [(0, .ref (ad 0)), (1, .int (zI (c))), (2, .int (zI (a)))] := hl
  refine lv_iconst (pc := 0) (v := zI 0) hx hb dX4_leastChange_0 rfl ?_
  refine lv_istore_n (pc := 1) (lv' := [(3, .int (zI (0))), (0, .ref (ad 0)), (1, .int (zI (c))), (2, .int (zI (a)))]) hx hb dX4_leastChange_1 rfl hl (by decide) rfl (fun ls hl => ?_)
  refine lv_aload_n (pc := 2) hx hb dX4_leastChange_2 rfl (lv_at hl 1 rfl) ?_
  refine zr_get (pc := 3) S hK (hP 0 (by decide)) rfl i_X4 0 (by decide) (List.mem_of_getElem? (i := 1) rfl) rfl dX4_leastChange_3 ?_
  refine lv_iload_n (pc := 6) hx hb dX4_leastChange_6 rfl (lv_at hl 2 rfl) ?_
  refine zr_vi (pc := 7) (As := [.int (zI (c))]) (rest := []) S (ct_X6_roomForAlterations l D cI cT ad σ g hR hI c (by omega) (by omega)) (cwV 1 hts gX4_leastChange_X6_roomForAlterations rfl rfl rfl (by decide +kernel) ⟨Nat.le_of_ble_eq_true rfl, Nat.le_of_ble_eq_true rfl⟩) zs0 hK hP (zr_recv hK (hP 1 (by decide)) rfl) rfl hl.1 rfl (Nat.le_of_ble_eq_true rfl) dX4_leastChange_7 ⟨Nat.le_of_ble_eq_true rfl, Nat.le_of_ble_eq_true rfl⟩ (fun r_7 hr_7 => ?_)
  subst hr_7
  refine lv_istore (pc := 10) (lv' := [(4, .int (zI (6 - gC g c 7))), (3, .int (zI (0))), (0, .ref (ad 0)), (1, .int (zI (c))), (2, .int (zI (a)))]) hx hb dX4_leastChange_10 hl (by decide) rfl (fun ls hl => ?_)
  refine lv_iconst (pc := 12) (v := zI 0) hx hb dX4_leastChange_12 rfl ?_
  refine lv_istore (pc := 13) (lv' := [(5, .int (zI (0))), (4, .int (zI (6 - gC g c 7))), (3, .int (zI (0))), (0, .ref (ad 0)), (1, .int (zI (c))), (2, .int (zI (a)))]) hx hb dX4_leastChange_13 hl (by decide) rfl (fun ls hl => ?_)
  refine zr_loop3 (fun (i : Nat) (x : Int) (r : Int) => ((i : Int) ≤ 3) ∧ (x = sm (fun m => zabs (lack g c a m)) i) ∧ (r = 6 - gC g c 7 - need g c a i) ∧ (0 ≤ r) ∧ (∀ b : Int, 0 ≤ b → b < (i : Int) → ¬ bad g c a b)) (fun (i : Nat) (x : Int) (r : Int) => (3 : Int).toNat - i) (fun (i : Nat) (x : Int) (r : Int) => [(0, .ref (ad 0)), (1, .int (zI (c))), (2, .int (zI (a))), (3, .int (zI (x))), (4, .int (zI (r))), (5, .int (zI ((i : Int))))]) ?_ (0) (0) ((6 - gC g c 7)) (⟨by omega, by rw [sm_0], by rw [need_0]; omega, by omega, fa_0⟩) (lv_sub hl [3, 4, 5, 2, 1, 0] rfl)
  intro i x r hinv ih_15 ls hl
  obtain ⟨h_i, h_x, h_r, h_r0, h_b⟩ := hinv
  have hnb := need_bd g c a i
  refine lv_iload (pc := 15) hx hb dX4_leastChange_15 (lv_at hl 5 rfl) ?_
  refine lv_iconst (pc := 17) (v := zI 3) hx hb dX4_leastChange_17 rfl ?_
  refine zr_icmp_ge (pc := 18) (tgt := 90) hx hb dX4_leastChange_18 (by decide) (by omega) (by decide) (fun c_18 => ?_) (fun c_18 => ?_)
  · refine lv_iload_n (pc := 90) hx hb dX4_leastChange_90 rfl (lv_at hl 3 rfl) ?_
    exact W.iret (v := zI (x)) hx hb hr (fun tz ht hW => ⟨_, rfl, congrArg zI (by have e3 : i = 3 := (by omega); subst e3; rw [lst, tif_t ⟨fun m m0 m1 => h_b m m0 (by omega), by omega⟩, h_x, mis]), ht⟩) (fun _ h => by cases h) dX4_leastChange_91
  · refine lv_aload_n (pc := 21) hx hb dX4_leastChange_21 rfl (lv_at hl 0 rfl) ?_
    refine lv_iload_n (pc := 22) hx hb dX4_leastChange_22 rfl (lv_at hl 1 rfl) ?_
    refine lv_iload_n (pc := 23) hx hb dX4_leastChange_23 rfl (lv_at hl 2 rfl) ?_
    refine lv_iload (pc := 24) hx hb dX4_leastChange_24 (lv_at hl 5 rfl) ?_
    refine zr_vi (pc := 26) (As := [.int (zI (c)), .int (zI (a)), .int (zI ((i : Int)))]) (rest := []) S (ct_X4_lackOf l D cI cT ad σ g hR hI c a ((i : Int)) (by omega) (by omega) (by omega) (by omega) (by omega) (by omega)) (cwV 3 hts gX4_leastChange_X4_lackOf rfl rfl rfl (by decide +kernel) ⟨Nat.le_of_ble_eq_true rfl, Nat.le_of_ble_eq_true rfl⟩) zs0 hK hP (zr_recv hK (hP 0 (by decide)) rfl) rfl hl.1 rfl (Nat.le_of_ble_eq_true rfl) dX4_leastChange_26 ⟨Nat.le_of_ble_eq_true rfl, Nat.le_of_ble_eq_true rfl⟩ (fun r_26 hr_26 => ?_)
    subst hr_26
    have hl_26 := lack_bd hI (c := c) (a := a) (m := ((i : Int))) (by omega) (by omega) (by omega) (by omega) (by omega) (by omega)
    have hz_26 := zabs_bd hl_26
    refine lv_istore (pc := 29) (lv' := [(6, .int (zI (lack g c a ((i : Int))))), (0, .ref (ad 0)), (1, .int (zI (c))), (2, .int (zI (a))), (3, .int (zI (x))), (4, .int (zI (r))), (5, .int (zI ((i : Int))))]) hx hb dX4_leastChange_29 hl (by decide) rfl (fun ls hl => ?_)
    refine lv_iload (pc := 31) hx hb dX4_leastChange_31 (lv_at hl 0 rfl) ?_
    refine zr_if_ne (pc := 33) (tgt := 39) hx hb dX4_leastChange_33 (by decide) (by omega) (fun c_33 => ?_) (fun c_33 => ?_)
    · refine lv_iload (pc := 39) hx hb dX4_leastChange_39 (lv_at hl 5 rfl) ?_
      refine zr_if_le (pc := 41) (tgt := 69) hx hb dX4_leastChange_41 (by decide) (by omega) (fun c_41 => ?_) (fun c_41 => ?_)
      · refine lv_sipush (pc := 69) (v := zI (-2009)) hx hb dX4_leastChange_69 zc_sipush_m2009 ?_
        exact W.iret (v := zI ((-2009))) hx hb hr (fun tz ht hW => ⟨_, rfl, congrArg zI (by rw [lst, tif_f (fun q => by first | exact q.1 i (by omega) (by omega) ⟨c_33, Or.inl c_51⟩ | exact q.1 i (by omega) (by omega) ⟨c_33, Or.inr hb_63⟩ | (have h2 := q.2; have h3 := need_mono g c a (i := i + 1) (by omega); rw [need_s, ti_t c_33] at h3; omega))]), ht⟩) (fun _ h => by cases h) dX4_leastChange_72
      · refine lv_iload (pc := 44) hx hb dX4_leastChange_44 (lv_at hl 0 rfl) ?_
        refine zr_mabs (pc := 46) hx hb (hml.trans hl.1.symm) hown (hts _ (List.mem_of_getElem? (i := 2) rfl)) (hts _ (List.mem_of_getElem? (i := 3) rfl)) (hts _ (List.mem_of_getElem? (i := 4) rfl)) (hts _ (List.mem_of_getElem? (i := 5) rfl)) (Nat.le_of_ble_eq_true rfl) (Nat.le_of_ble_eq_true rfl) (Nat.le_of_ble_eq_true rfl) (Nat.le_of_ble_eq_true rfl) dX4_leastChange_46 (by omega) (rfl : _ = zabs (lack g c a ((i : Int)))) ?_
        refine lv_bipush (pc := 49) (v := zI 10) hx hb dX4_leastChange_49 zc_bipush_10 ?_
        refine zr_icmp_gt (pc := 51) (tgt := 69) hx hb dX4_leastChange_51 (by decide) (by omega) (by decide) (fun c_51 => ?_) (fun c_51 => ?_)
        · refine lv_sipush (pc := 69) (v := zI (-2009)) hx hb dX4_leastChange_69 zc_sipush_m2009 ?_
          exact W.iret (v := zI ((-2009))) hx hb hr (fun tz ht hW => ⟨_, rfl, congrArg zI (by rw [lst, tif_f (fun q => by first | exact q.1 i (by omega) (by omega) ⟨c_33, Or.inl c_51⟩ | exact q.1 i (by omega) (by omega) ⟨c_33, Or.inr hb_63⟩ | (have h2 := q.2; have h3 := need_mono g c a (i := i + 1) (by omega); rw [need_s, ti_t c_33] at h3; omega))]), ht⟩) (fun _ h => by cases h) dX4_leastChange_72
        · refine lv_aload_n (pc := 54) hx hb dX4_leastChange_54 rfl (lv_at hl 1 rfl) ?_
          refine zr_get (pc := 55) S hK (hP 0 (by decide)) rfl i_X4 0 (by decide) (List.mem_of_getElem? (i := 1) rfl) rfl dX4_leastChange_55 ?_
          refine lv_iload_n (pc := 58) hx hb dX4_leastChange_58 rfl (lv_at hl 2 rfl) ?_
          refine lv_iload (pc := 59) hx hb dX4_leastChange_59 (lv_at hl 6 rfl) ?_
          refine lv_iload (pc := 61) hx hb dX4_leastChange_61 (lv_at hl 0 rfl) ?_
          refine zr_vi (pc := 63) (As := [.int (zI (c)), .int (zI ((i : Int))), .int (zI (lack g c a ((i : Int))))]) (rest := []) S (ct_X6_allows l D cI cT ad σ g hR hI c ((i : Int)) (lack g c a ((i : Int))) (by omega) (by omega) (by omega) (by omega) (by omega) (by omega)) (cwV 3 hts gX4_leastChange_X6_allows rfl rfl rfl (by decide +kernel) ⟨Nat.le_of_ble_eq_true rfl, Nat.le_of_ble_eq_true rfl⟩) zs0 hK hP (zr_recv hK (hP 1 (by decide)) rfl) rfl hl.1 rfl (Nat.le_of_ble_eq_true rfl) dX4_leastChange_63 ⟨Nat.le_of_ble_eq_true rfl, Nat.le_of_ble_eq_true rfl⟩ (fun r_63 hr_63 => ?_)
          rcases hr_63 with ⟨hb_63, rfl⟩ | ⟨hb_63, rfl⟩
          · refine zr_if_ne (pc := 66) (tgt := 73) hx hb dX4_leastChange_66 (by decide) (by decide) (fun _ => ?_) (fun z => absurd z (by decide))
            refine zr_iinc (pc := 73) (d := r + (-1)) (lv' := [(4, .int (zI (r + (-1)))), (6, .int (zI (lack g c a ((i : Int))))), (0, .ref (ad 0)), (1, .int (zI (c))), (2, .int (zI (a))), (3, .int (zI (x))), (5, .int (zI ((i : Int))))]) hx hb dX4_leastChange_73 hl (k := 5) rfl rfl (by decide) rfl (fun ls hl => ?_)
            refine lv_iload_n (pc := 76) hx hb dX4_leastChange_76 rfl (lv_at hl 5 rfl) ?_
            refine lv_iload (pc := 77) hx hb dX4_leastChange_77 (lv_at hl 1 rfl) ?_
            refine zr_mabs (pc := 79) hx hb (hml.trans hl.1.symm) hown (hts _ (List.mem_of_getElem? (i := 2) rfl)) (hts _ (List.mem_of_getElem? (i := 3) rfl)) (hts _ (List.mem_of_getElem? (i := 4) rfl)) (hts _ (List.mem_of_getElem? (i := 5) rfl)) (Nat.le_of_ble_eq_true rfl) (Nat.le_of_ble_eq_true rfl) (Nat.le_of_ble_eq_true rfl) (Nat.le_of_ble_eq_true rfl) dX4_leastChange_79 (by omega) (rfl : _ = zabs (lack g c a ((i : Int)))) ?_
            refine zr_iadd (pc := 82) (d := x + (zabs (lack g c a ((i : Int))))) hx hb dX4_leastChange_82 rfl ?_
            refine lv_istore_n (pc := 83) (lv' := [(3, .int (zI (x + (zabs (lack g c a ((i : Int))))))), (4, .int (zI (r + (-1)))), (6, .int (zI (lack g c a ((i : Int))))), (0, .ref (ad 0)), (1, .int (zI (c))), (2, .int (zI (a))), (5, .int (zI ((i : Int))))]) hx hb dX4_leastChange_83 rfl hl (by decide) rfl (fun ls hl => ?_)
            refine zr_iinc (pc := 84) (d := ((i : Int)) + 1) (lv' := [(5, .int (zI (((i : Int)) + 1))), (3, .int (zI (x + (zabs (lack g c a ((i : Int))))))), (4, .int (zI (r + (-1)))), (6, .int (zI (lack g c a ((i : Int))))), (0, .ref (ad 0)), (1, .int (zI (c))), (2, .int (zI (a)))]) hx hb dX4_leastChange_84 hl (k := 6) rfl rfl (by decide) rfl (fun ls hl => ?_)
            refine lv_goto (pc := 87) (tgt := 15) hx hb dX4_leastChange_87 (by decide) ?_
            exact ih_15 (i + 1) ((x + (zabs (lack g c a ((i : Int)))))) ((r + (-1))) (⟨by omega, by rw [sm_s]; first | omega | (rw [c_33, zabs_0]; omega), by rw [need_s]; first | (rw [ti_t c_33]; omega) | (rw [ti_f (fun q => q c_33)]; omega), by omega, fa_s h_b (fun q => by first | exact q.1 c_33 | (rcases q.2 with q | q <;> first | omega | exact q hb_63))⟩) (by omega) ls (lv_sub hl [4, 5, 6, 1, 2, 0] rfl)
          · refine zr_if_ne (pc := 66) (tgt := 73) hx hb dX4_leastChange_66 (by decide) (by decide) (fun z => absurd z (by decide)) (fun _ => ?_)
            refine lv_sipush (pc := 69) (v := zI (-2009)) hx hb dX4_leastChange_69 zc_sipush_m2009 ?_
            exact W.iret (v := zI ((-2009))) hx hb hr (fun tz ht hW => ⟨_, rfl, congrArg zI (by rw [lst, tif_f (fun q => by first | exact q.1 i (by omega) (by omega) ⟨c_33, Or.inl c_51⟩ | exact q.1 i (by omega) (by omega) ⟨c_33, Or.inr hb_63⟩ | (have h2 := q.2; have h3 := need_mono g c a (i := i + 1) (by omega); rw [need_s, ti_t c_33] at h3; omega))]), ht⟩) (fun _ h => by cases h) dX4_leastChange_72
    · refine lv_goto (pc := 36) (tgt := 84) hx hb dX4_leastChange_36 (by decide) ?_
      refine zr_iinc (pc := 84) (d := ((i : Int)) + 1) (lv' := [(5, .int (zI (((i : Int)) + 1))), (6, .int (zI (lack g c a ((i : Int))))), (0, .ref (ad 0)), (1, .int (zI (c))), (2, .int (zI (a))), (3, .int (zI (x))), (4, .int (zI (r)))]) hx hb dX4_leastChange_84 hl (k := 6) rfl rfl (by decide) rfl (fun ls hl => ?_)
      refine lv_goto (pc := 87) (tgt := 15) hx hb dX4_leastChange_87 (by decide) ?_
      exact ih_15 (i + 1) (x) (r) (⟨by omega, by rw [sm_s]; first | omega | (rw [c_33, zabs_0]; omega), by rw [need_s]; first | (rw [ti_t c_33]; omega) | (rw [ti_f (fun q => q c_33)]; omega), by omega, fa_s h_b (fun q => by first | exact q.1 c_33 | (rcases q.2 with q | q <;> first | omega | exact q hb_63))⟩) (by omega) ls (lv_sub hl [2, 3, 4, 5, 6, 0] rfl)
set_option maxHeartbeats 4000000 in
set_option maxRecDepth 100000 in
theorem ct_X4_isFreeFor (l : Launch) (D : va_G) (cI cT : ClassId) (ad : Nat → Nat) (σ : Nat → Int → Int) (g : Int → Int) (hR : Rel σ g) (hI : Inv g) (sc : Int) (a : Int) (c : Int) (s0 : 0 ≤ sc) (s1 : sc < 12) (a0 : 0 ≤ a) (a1 : a < g 1) (h0 : 0 ≤ c) (h1 : c < g 0) : zMr l yX4_isFreeFor wsX4_isFreeFor ({ frames := 4, cells := 0, slots := 0, locals := 91 }) D cI cT [.ref (ad 0), .int (zI (sc)), .int (zI (a)), .int (zI (c))] (fun _ H => zW D ad 20 (sC cI ad σ) H) (fun r => bz (fre g sc a c) r) := by
  refine Met.ofW (cc := cX4_isFreeFor) (maxL := 6) (ret := (some .boolean)) (by decide) rfl ?_
  intro p_ e_ s m_ args below meth c_ s₁ B hml hv
  obtain ⟨rfl, hK, hF⟩ := hv
  have hx := B.exec
  have hb := B.bytes
  have hr := B.returns
  have hts := atoms_spec (ws := wsX4_isFreeFor) B.pre
  have hown : s.vm.findClass RX4 = some m_.cls := findClass_of_methodNamed B.named
  have hlocks := B.notSynchronized
  have S : CallFix p_ m_ c_ cX4_isFreeFor 6 s _ wsX4_isFreeFor RX4 := ⟨hx, hb, hml, hown, hts⟩
  have i_X4 : ∀ w ∈ u_ws RX4 TX4 9, w ∈ wsX4_isFreeFor := fun _ h => List.mem_cons_of_mem _ (List.mem_append_left _ (List.mem_append_left _ (List.mem_append_left _ (List.mem_append_right _ h))))
  have hP := hF
  have hnC := iv_nC hI
  have hnA := iv_nA hI
  have hl := lv_entry ([.ref (ad 0), .int (zI (sc)), .int (zI (a)), .int (zI (c))]) (n := 6) (Nat.le_of_ble_eq_true rfl)
  rw [lg_entry_eq]
  generalize (lg_sl ([.ref (ad 0), .int (zI (sc)), .int (zI (a)), .int (zI (c))]) ++ List.replicate (6 - (lg_sl ([.ref (ad 0), .int (zI (sc)), .int (zI (a)), .int (zI (c))])).length) Slot.unset).toArray = ls at hl ⊢
  have hl : lv_has ls 6 [(0, .ref (ad 0)), (1, .int (zI (sc))), (2, .int (zI (a))), (3, .int (zI (c)))] := hl
  refine lv_aload_n (pc := 0) hx hb dX4_isFreeFor_0 rfl (lv_at hl 0 rfl) ?_
  refine lv_iload_n (pc := 1) hx hb dX4_isFreeFor_1 rfl (lv_at hl 3 rfl) ?_
  refine zr_vi (pc := 2) (As := [.int (zI (c))]) (rest := []) S (ct_X4_isAway l D cI cT ad σ g hR hI c (by omega) (by omega)) (cwV 1 hts gX4_isFreeFor_X4_isAway rfl rfl rfl (by decide +kernel) ⟨Nat.le_of_ble_eq_true rfl, Nat.le_of_ble_eq_true rfl⟩) zs0 hK hP (zr_recv hK (hP 0 (by decide)) rfl) rfl hl.1 rfl (Nat.le_of_ble_eq_true rfl) dX4_isFreeFor_2 ⟨Nat.le_of_ble_eq_true rfl, Nat.le_of_ble_eq_true rfl⟩ (fun r_2 hr_2 => ?_)
  rcases hr_2 with ⟨hb_2, rfl⟩ | ⟨hb_2, rfl⟩
  · refine zr_if_ne (pc := 5) (tgt := 16) hx hb dX4_isFreeFor_5 (by decide) (by decide) (fun _ => ?_) (fun z => absurd z (by decide))
    refine lv_iconst (pc := 16) (v := zI 0) hx hb dX4_isFreeFor_16 rfl ?_
    exact W.zret (ty := .boolean) (v := zI (0)) hx hb hr (by first | rfl | decide) (fun tz ht hW => ⟨_, rfl, bz_f (fun q => by first | exact q.2.1 hb_2 | (have q2 := q.2.2; omega)), ht⟩) (fun _ h => by cases h) dX4_isFreeFor_17
  · refine zr_if_ne (pc := 5) (tgt := 16) hx hb dX4_isFreeFor_5 (by decide) (by decide) (fun z => absurd z (by decide)) (fun _ => ?_)
    refine lv_aload_n (pc := 8) hx hb dX4_isFreeFor_8 rfl (lv_at hl 0 rfl) ?_
    refine lv_iload_n (pc := 9) hx hb dX4_isFreeFor_9 rfl (lv_at hl 3 rfl) ?_
    refine zr_vi (pc := 10) (As := [.int (zI (c))]) (rest := []) S (ct_X4_isTooDirty l D cI cT ad σ g hR hI c (by omega) (by omega)) (cwV 1 hts gX4_isFreeFor_X4_isTooDirty rfl rfl rfl (by decide +kernel) ⟨Nat.le_of_ble_eq_true rfl, Nat.le_of_ble_eq_true rfl⟩) zs0 hK hP (zr_recv hK (hP 0 (by decide)) rfl) rfl hl.1 rfl (Nat.le_of_ble_eq_true rfl) dX4_isFreeFor_10 ⟨Nat.le_of_ble_eq_true rfl, Nat.le_of_ble_eq_true rfl⟩ (fun r_10 hr_10 => ?_)
    rcases hr_10 with ⟨hb_10, rfl⟩ | ⟨hb_10, rfl⟩
    · refine zr_if_eq (pc := 13) (tgt := 18) hx hb dX4_isFreeFor_13 (by decide) (by decide) (fun z => absurd z (by decide)) (fun _ => ?_)
      refine lv_iconst (pc := 16) (v := zI 0) hx hb dX4_isFreeFor_16 rfl ?_
      exact W.zret (ty := .boolean) (v := zI (0)) hx hb hr (by first | rfl | decide) (fun tz ht hW => ⟨_, rfl, bz_f (fun q => by first | exact q.2.1 hb_2 | (have q2 := q.2.2; omega)), ht⟩) (fun _ h => by cases h) dX4_isFreeFor_17
    · refine zr_if_eq (pc := 13) (tgt := 18) hx hb dX4_isFreeFor_13 (by decide) (by decide) (fun _ => ?_) (fun z => absurd z (by decide))
      refine lv_iload_n (pc := 18) hx hb dX4_isFreeFor_18 rfl (lv_at hl 1 rfl) ?_
      refine lv_iconst (pc := 19) (v := zI 1) hx hb dX4_isFreeFor_19 rfl ?_
      refine zr_iadd (pc := 20) (d := sc + 1) hx hb dX4_isFreeFor_20 rfl ?_
      refine lv_bipush (pc := 21) (v := zI 11) hx hb dX4_isFreeFor_21 zc_bipush_11 ?_
      refine zr_mmin (pc := 23) hx hb (hml.trans hl.1.symm) hown (hts _ (List.mem_of_getElem? (i := 1) rfl)) (hts _ (List.mem_of_getElem? (i := 2) rfl)) (hts _ (List.mem_of_getElem? (i := 3) rfl)) (hts _ (List.mem_of_getElem? (i := 4) rfl)) (Nat.le_of_ble_eq_true rfl) (Nat.le_of_ble_eq_true rfl) (Nat.le_of_ble_eq_true rfl) (Nat.le_of_ble_eq_true rfl) dX4_isFreeFor_23 (by omega) (by decide) (rfl : _ = min (sc + 1) 11) ?_
      refine lv_istore (pc := 26) (lv' := [(4, .int (zI (min (sc + 1) 11))), (0, .ref (ad 0)), (1, .int (zI (sc))), (2, .int (zI (a))), (3, .int (zI (c)))]) hx hb dX4_isFreeFor_26 hl (by decide) rfl (fun ls hl => ?_)
      refine lv_iload_n (pc := 28) hx hb dX4_isFreeFor_28 rfl (lv_at hl 2 rfl) ?_
      refine lv_iconst (pc := 29) (v := zI 1) hx hb dX4_isFreeFor_29 rfl ?_
      refine zr_isub (pc := 30) (d := sc - 1) hx hb dX4_isFreeFor_30 rfl ?_
      refine lv_iconst (pc := 31) (v := zI 0) hx hb dX4_isFreeFor_31 rfl ?_
      refine zr_mmax (pc := 32) hx hb (hml.trans hl.1.symm) hown (hts _ (List.mem_of_getElem? (i := 5) rfl)) (hts _ (List.mem_of_getElem? (i := 6) rfl)) (hts _ (List.mem_of_getElem? (i := 3) rfl)) (hts _ (List.mem_of_getElem? (i := 7) rfl)) (Nat.le_of_ble_eq_true rfl) (Nat.le_of_ble_eq_true rfl) (Nat.le_of_ble_eq_true rfl) (Nat.le_of_ble_eq_true rfl) dX4_isFreeFor_32 (by omega) (by decide) (rfl : _ = max (sc - 1) 0) ?_
      refine lv_istore (pc := 35) (lv' := [(5, .int (zI (max (sc - 1) 0))), (4, .int (zI (min (sc + 1) 11))), (0, .ref (ad 0)), (1, .int (zI (sc))), (2, .int (zI (a))), (3, .int (zI (c)))]) hx hb dX4_isFreeFor_35 hl (by decide) rfl (fun ls hl => ?_)
      refine zr_loop1 (fun (n : Int) => (max (sc - 1) 0 ≤ n ∧ n ≤ min (sc + 1) 11 + 1) ∧ (∀ x : Int, max (sc - 1) 0 ≤ x → x < n → ¬ tkn g x a c)) (fun (n : Int) => (min (sc + 1) 11 + 1 - n).toNat) (fun (n : Int) => [(4, .int (zI (min (sc + 1) 11))), (0, .ref (ad 0)), (1, .int (zI (sc))), (2, .int (zI (a))), (3, .int (zI (c))), (5, .int (zI (n)))]) ?_ (max (sc - 1) 0) (⟨by omega, fun x x0 x1 => absurd x1 (by omega)⟩) (lv_sub hl [1, 2, 3, 4, 5, 0] rfl)
      intro n hinv ih_37 ls hl
      obtain ⟨h_0, h_n⟩ := hinv
      refine lv_iload (pc := 37) hx hb dX4_isFreeFor_37 (lv_at hl 5 rfl) ?_
      refine lv_iload (pc := 39) hx hb dX4_isFreeFor_39 (lv_at hl 0 rfl) ?_
      refine zr_icmp_gt (pc := 41) (tgt := 66) hx hb dX4_isFreeFor_41 (by decide) (by omega) (by omega) (fun c_41 => ?_) (fun c_41 => ?_)
      · refine lv_iconst (pc := 66) (v := zI 1) hx hb dX4_isFreeFor_66 rfl ?_
        exact W.zret (ty := .boolean) (v := zI (1)) hx hb hr (by first | rfl | decide) (fun tz ht hW => ⟨_, rfl, bz_t ⟨⟨fun q => h_n _ (by have := q.1; omega) (by have := q.1; omega) q, fun q => h_n _ (by have := q.1; omega) (by have := q.1; omega) q, fun q => h_n _ (by have := q.1; omega) (by have := q.1; omega) q⟩, hb_2, by omega⟩, ht⟩) (fun _ h => by cases h) dX4_isFreeFor_67
      · refine lv_aload_n (pc := 44) hx hb dX4_isFreeFor_44 rfl (lv_at hl 1 rfl) ?_
        refine zr_get (pc := 45) S hK (hP 0 (by decide)) rfl i_X4 1 (by decide) (List.mem_of_getElem? (i := 8) rfl) rfl dX4_isFreeFor_45 ?_
        refine lv_iload (pc := 48) hx hb dX4_isFreeFor_48 (lv_at hl 5 rfl) ?_
        refine lv_iload_n (pc := 50) hx hb dX4_isFreeFor_50 rfl (lv_at hl 3 rfl) ?_
        refine lv_iload_n (pc := 51) hx hb dX4_isFreeFor_51 rfl (lv_at hl 4 rfl) ?_
        refine zr_vi (pc := 52) (As := [.int (zI (n)), .int (zI (a)), .int (zI (c))]) (rest := []) S (ct_X0_isWornByAnother l D cI cT ad σ g hR hI n a c (by omega) (by omega) (by omega) (by omega) (by omega) (by omega)) (cwV 3 hts gX4_isFreeFor_X0_isWornByAnother rfl rfl rfl (by decide +kernel) ⟨Nat.le_of_ble_eq_true rfl, Nat.le_of_ble_eq_true rfl⟩) zs0 hK hP (zr_recv hK (hP 2 (by decide)) rfl) rfl hl.1 rfl (Nat.le_of_ble_eq_true rfl) dX4_isFreeFor_52 ⟨Nat.le_of_ble_eq_true rfl, Nat.le_of_ble_eq_true rfl⟩ (fun r_52 hr_52 => ?_)
        rcases hr_52 with ⟨hb_52, rfl⟩ | ⟨hb_52, rfl⟩
        · refine zr_if_eq (pc := 55) (tgt := 60) hx hb dX4_isFreeFor_55 (by decide) (by decide) (fun z => absurd z (by decide)) (fun _ => ?_)
          refine lv_iconst (pc := 58) (v := zI 0) hx hb dX4_isFreeFor_58 rfl ?_
          exact W.zret (ty := .boolean) (v := zI (0)) hx hb hr (by first | rfl | decide) (fun tz ht hW => ⟨_, rfl, bz_f (fun q => by rcases (show n = sc ∨ n = sc - 1 ∨ n = sc + 1 by omega) with e | e | e <;> rw [e] at hb_52 <;> first | exact q.1.1 ⟨⟨by omega, by omega⟩, hb_52⟩ | exact q.1.2.1 ⟨⟨by omega, by omega⟩, hb_52⟩ | exact q.1.2.2 ⟨⟨by omega, by omega⟩, hb_52⟩), ht⟩) (fun _ h => by cases h) dX4_isFreeFor_59
        · refine zr_if_eq (pc := 55) (tgt := 60) hx hb dX4_isFreeFor_55 (by decide) (by decide) (fun _ => ?_) (fun z => absurd z (by decide))
          refine zr_iinc (pc := 60) (d := n + 1) (lv' := [(5, .int (zI (n + 1))), (4, .int (zI (min (sc + 1) 11))), (0, .ref (ad 0)), (1, .int (zI (sc))), (2, .int (zI (a))), (3, .int (zI (c)))]) hx hb dX4_isFreeFor_60 hl (k := 5) rfl rfl (by decide) rfl (fun ls hl => ?_)
          refine lv_goto (pc := 63) (tgt := 37) hx hb dX4_isFreeFor_63 (by decide) ?_
          exact ih_37 (n + 1) (⟨by omega, fun x x0 x1 q => by rcases Int.lt_or_le x n with z | z <;> first | exact h_n x x0 z q | (have e : x = n := (by omega); subst e; exact hb_52 q.2)⟩) (by omega) ls (lv_sub hl [1, 2, 3, 4, 5, 0] rfl)
set_option maxHeartbeats 4000000 in
set_option maxRecDepth 100000 in
theorem ct_X4_bestCostume (l : Launch) (D : va_G) (cI cT : ClassId) (ad : Nat → Nat) (σ : Nat → Int → Int) (g : Int → Int) (hR : Rel σ g) (hI : Inv g) (sc : Int) (a : Int) (s0 : 0 ≤ sc) (s1 : sc < 12) (a0 : 0 ≤ a) (a1 : a < g 1) : zMr l yX4_bestCostume wsX4_bestCostume ({ frames := 5, cells := 0, slots := 0, locals := 121 }) D cI cT [.ref (ad 0), .int (zI (sc)), .int (zI (a))] (fun _ H => zW D ad 20 (sC cI ad σ) H) (fun r => r = zI (bst g sc a (g 0).toNat)) := by
  refine Met.ofW (cc := cX4_bestCostume) (maxL := 7) (ret := (some .int)) (by decide) rfl ?_
  intro p_ e_ s m_ args below meth c_ s₁ B hml hv
  obtain ⟨rfl, hK, hF⟩ := hv
  have hx := B.exec
  have hb := B.bytes
  have hr := B.returns
  have hts := atoms_spec (ws := wsX4_bestCostume) B.pre
  have hown : s.vm.findClass RX4 = some m_.cls := findClass_of_methodNamed B.named
  have hlocks := B.notSynchronized
  have S : CallFix p_ m_ c_ cX4_bestCostume 7 s _ wsX4_bestCostume RX4 := ⟨hx, hb, hml, hown, hts⟩
  have i_X4 : ∀ w ∈ u_ws RX4 TX4 9, w ∈ wsX4_bestCostume := fun _ h => List.mem_cons_of_mem _ (List.mem_append_left _ (List.mem_append_left _ (List.mem_append_left _ (List.mem_append_right _ h))))
  have i_X6 : ∀ w ∈ u_ws RX6 TX6 9, w ∈ wsX4_bestCostume := fun _ h => List.mem_cons_of_mem _ (List.mem_append_left _ (List.mem_append_left _ (List.mem_append_right _ h)))
  have hP := hF
  have hnC := iv_nC hI
  have hnA := iv_nA hI
  have hl := lv_entry ([.ref (ad 0), .int (zI (sc)), .int (zI (a))]) (n := 7) (Nat.le_of_ble_eq_true rfl)
  rw [lg_entry_eq]
  generalize (lg_sl ([.ref (ad 0), .int (zI (sc)), .int (zI (a))]) ++ List.replicate (7 - (lg_sl ([.ref (ad 0), .int (zI (sc)), .int (zI (a))])).length) Slot.unset).toArray = ls at hl ⊢
  have hl : lv_has ls 7 [(0, .ref (ad 0)), (1, .int (zI (sc))), (2, .int (zI (a)))] := hl
  refine lv_sipush (pc := 0) (v := zI (-2009)) hx hb dX4_bestCostume_0 zc_sipush_m2009 ?_
  refine lv_istore_n (pc := 3) (lv' := [(3, .int (zI ((-2009)))), (0, .ref (ad 0)), (1, .int (zI (sc))), (2, .int (zI (a)))]) hx hb dX4_bestCostume_3 rfl hl (by decide) rfl (fun ls hl => ?_)
  refine lv_iconst (pc := 4) (v := zI 0) hx hb dX4_bestCostume_4 rfl ?_
  refine lv_istore (pc := 5) (lv' := [(4, .int (zI (0))), (3, .int (zI ((-2009)))), (0, .ref (ad 0)), (1, .int (zI (sc))), (2, .int (zI (a)))]) hx hb dX4_bestCostume_5 hl (by decide) rfl (fun ls hl => ?_)
  refine lv_iconst (pc := 7) (v := zI 0) hx hb dX4_bestCostume_7 rfl ?_
  refine lv_istore (pc := 8) (lv' := [(5, .int (zI (0))), (4, .int (zI (0))), (3, .int (zI ((-2009)))), (0, .ref (ad 0)), (1, .int (zI (sc))), (2, .int (zI (a)))]) hx hb dX4_bestCostume_8 hl (by decide) rfl (fun ls hl => ?_)
  refine zr_loop3 (fun (i : Nat) (b : Int) (bc : Int) => ((i : Int) ≤ g 0) ∧ (b = bst g sc a i) ∧ (b = -2009 ∨ bc = lst g b a)) (fun (i : Nat) (b : Int) (bc : Int) => (g 0 : Int).toNat - i) (fun (i : Nat) (b : Int) (bc : Int) => [(0, .ref (ad 0)), (1, .int (zI (sc))), (2, .int (zI (a))), (3, .int (zI (b))), (4, .int (zI (bc))), (5, .int (zI ((i : Int))))]) ?_ (0) (((-2009))) (0) (⟨by omega, rfl, Or.inl rfl⟩) (lv_sub hl [3, 4, 5, 2, 1, 0] rfl)
  intro i b bc hinv ih_10 ls hl
  obtain ⟨h_i, h_b, h_c⟩ := hinv
  have hbb : b = -2009 ∨ (0 ≤ b ∧ b < (i : Int)) := by rw [h_b]; exact bst_bd g sc a i
  refine lv_iload (pc := 10) hx hb dX4_bestCostume_10 (lv_at hl 5 rfl) ?_
  refine lv_aload_n (pc := 12) hx hb dX4_bestCostume_12 rfl (lv_at hl 0 rfl) ?_
  refine zr_get (pc := 13) S hK (hP 0 (by decide)) rfl i_X4 0 (by decide) (List.mem_of_getElem? (i := 1) rfl) rfl dX4_bestCostume_13 ?_
  refine zr_get (pc := 16) S hK (hP 1 (by decide)) rfl i_X6 0 (by decide) (List.mem_of_getElem? (i := 2) rfl) rfl dX4_bestCostume_16 ?_
  refine zr_top (b := g 0) (rl_nC hR) ?_
  refine zr_icmp_ge (pc := 19) (tgt := 80) hx hb dX4_bestCostume_19 (by decide) (by omega) (by omega) (fun c_19 => ?_) (fun c_19 => ?_)
  · refine lv_iload_n (pc := 80) hx hb dX4_bestCostume_80 rfl (lv_at hl 3 rfl) ?_
    exact W.iret (v := zI (b)) hx hb hr (fun tz ht hW => ⟨_, rfl, congrArg zI (by rw [h_b, show i = (g 0).toNat by omega]), ht⟩) (fun _ h => by cases h) dX4_bestCostume_81
  · refine lv_aload_n (pc := 22) hx hb dX4_bestCostume_22 rfl (lv_at hl 0 rfl) ?_
    refine lv_iload_n (pc := 23) hx hb dX4_bestCostume_23 rfl (lv_at hl 1 rfl) ?_
    refine lv_iload_n (pc := 24) hx hb dX4_bestCostume_24 rfl (lv_at hl 2 rfl) ?_
    refine lv_iload (pc := 25) hx hb dX4_bestCostume_25 (lv_at hl 5 rfl) ?_
    refine zr_vi (pc := 27) (As := [.int (zI (sc)), .int (zI (a)), .int (zI ((i : Int)))]) (rest := []) S (ct_X4_isFreeFor l D cI cT ad σ g hR hI sc a ((i : Int)) (by omega) (by omega) (by omega) (by omega) (by omega) (by omega)) (cwV 3 hts gX4_bestCostume_X4_isFreeFor rfl rfl rfl (by decide +kernel) ⟨Nat.le_of_ble_eq_true rfl, Nat.le_of_ble_eq_true rfl⟩) zs0 hK hP (zr_recv hK (hP 0 (by decide)) rfl) rfl hl.1 rfl (Nat.le_of_ble_eq_true rfl) dX4_bestCostume_27 ⟨Nat.le_of_ble_eq_true rfl, Nat.le_of_ble_eq_true rfl⟩ (fun r_27 hr_27 => ?_)
    rcases hr_27 with ⟨hb_27, rfl⟩ | ⟨hb_27, rfl⟩
    · refine zr_if_ne (pc := 30) (tgt := 36) hx hb dX4_bestCostume_30 (by decide) (by decide) (fun _ => ?_) (fun z => absurd z (by decide))
      refine lv_aload_n (pc := 36) hx hb dX4_bestCostume_36 rfl (lv_at hl 0 rfl) ?_
      refine lv_iload (pc := 37) hx hb dX4_bestCostume_37 (lv_at hl 5 rfl) ?_
      refine lv_iload_n (pc := 39) hx hb dX4_bestCostume_39 rfl (lv_at hl 2 rfl) ?_
      refine zr_vi (pc := 40) (As := [.int (zI ((i : Int))), .int (zI (a))]) (rest := []) S (ct_X4_leastChange l D cI cT ad σ g hR hI ((i : Int)) a (by omega) (by omega) (by omega) (by omega)) (cwV 2 hts gX4_bestCostume_X4_leastChange rfl rfl rfl (by decide +kernel) ⟨Nat.le_of_ble_eq_true rfl, Nat.le_of_ble_eq_true rfl⟩) zs0 hK hP (zr_recv hK (hP 0 (by decide)) rfl) rfl hl.1 rfl (Nat.le_of_ble_eq_true rfl) dX4_bestCostume_40 ⟨Nat.le_of_ble_eq_true rfl, Nat.le_of_ble_eq_true rfl⟩ (fun r_40 hr_40 => ?_)
      subst hr_40
      have hs_40 := lst_bd hI (c := ((i : Int))) (a := a) (by omega) (by omega) (by omega) (by omega)
      refine lv_istore (pc := 43) (lv' := [(6, .int (zI (lst g ((i : Int)) a))), (0, .ref (ad 0)), (1, .int (zI (sc))), (2, .int (zI (a))), (3, .int (zI (b))), (4, .int (zI (bc))), (5, .int (zI ((i : Int))))]) hx hb dX4_bestCostume_43 hl (by decide) rfl (fun ls hl => ?_)
      refine lv_iload (pc := 45) hx hb dX4_bestCostume_45 (lv_at hl 0 rfl) ?_
      refine lv_sipush (pc := 47) (v := zI (-2009)) hx hb dX4_bestCostume_47 zc_sipush_m2009 ?_
      refine zr_icmp_eq (pc := 50) (tgt := 74) hx hb dX4_bestCostume_50 (by decide) (by omega) (by decide) (fun c_50 => ?_) (fun c_50 => ?_)
      · refine zr_iinc (pc := 74) (d := ((i : Int)) + 1) (lv' := [(5, .int (zI (((i : Int)) + 1))), (6, .int (zI (lst g ((i : Int)) a))), (0, .ref (ad 0)), (1, .int (zI (sc))), (2, .int (zI (a))), (3, .int (zI (b))), (4, .int (zI (bc)))]) hx hb dX4_bestCostume_74 hl (k := 6) rfl rfl (by decide) rfl (fun ls hl => ?_)
        refine lv_goto (pc := 77) (tgt := 10) hx hb dX4_bestCostume_77 (by decide) ?_
        exact ih_10 (i + 1) (b) (bc) (⟨by omega, by first | exact h_b.trans (bst_no (fun q => hb_27 q.1.1)).symm | exact h_b.trans (bst_no (fun q => q.1.2 c_50)).symm | exact (bst_yes ⟨⟨hb_27, c_50⟩, Or.inl (h_b.symm.trans c_57)⟩).symm | exact (bst_yes ⟨⟨hb_27, c_50⟩, Or.inr (by rw [← h_b, ← hbc]; exact c_64)⟩).symm | exact h_b.trans (bst_no (fun q => q.2.elim (fun z => c_57 (h_b.trans z)) (fun z => by rw [← h_b, ← hbc] at z; omega))).symm, by first | exact h_c | exact Or.inr rfl⟩) (by omega) ls (lv_sub hl [2, 3, 4, 5, 6, 0] rfl)
      · refine lv_iload_n (pc := 53) hx hb dX4_bestCostume_53 rfl (lv_at hl 4 rfl) ?_
        refine lv_sipush (pc := 54) (v := zI (-2009)) hx hb dX4_bestCostume_54 zc_sipush_m2009 ?_
        refine zr_icmp_eq (pc := 57) (tgt := 67) hx hb dX4_bestCostume_57 (by decide) (by omega) (by decide) (fun c_57 => ?_) (fun c_57 => ?_)
        · refine lv_iload (pc := 67) hx hb dX4_bestCostume_67 (lv_at hl 6 rfl) ?_
          refine lv_istore_n (pc := 69) (lv' := [(3, .int (zI ((i : Int)))), (6, .int (zI (lst g ((i : Int)) a))), (0, .ref (ad 0)), (1, .int (zI (sc))), (2, .int (zI (a))), (4, .int (zI (bc))), (5, .int (zI ((i : Int))))]) hx hb dX4_bestCostume_69 rfl hl (by decide) rfl (fun ls hl => ?_)
          refine lv_iload (pc := 70) hx hb dX4_bestCostume_70 (lv_at hl 1 rfl) ?_
          refine lv_istore (pc := 72) (lv' := [(4, .int (zI (lst g ((i : Int)) a))), (3, .int (zI ((i : Int)))), (6, .int (zI (lst g ((i : Int)) a))), (0, .ref (ad 0)), (1, .int (zI (sc))), (2, .int (zI (a))), (5, .int (zI ((i : Int))))]) hx hb dX4_bestCostume_72 hl (by decide) rfl (fun ls hl => ?_)
          refine zr_iinc (pc := 74) (d := ((i : Int)) + 1) (lv' := [(5, .int (zI (((i : Int)) + 1))), (4, .int (zI (lst g ((i : Int)) a))), (3, .int (zI ((i : Int)))), (6, .int (zI (lst g ((i : Int)) a))), (0, .ref (ad 0)), (1, .int (zI (sc))), (2, .int (zI (a)))]) hx hb dX4_bestCostume_74 hl (k := 6) rfl rfl (by decide) rfl (fun ls hl => ?_)
          refine lv_goto (pc := 77) (tgt := 10) hx hb dX4_bestCostume_77 (by decide) ?_
          exact ih_10 (i + 1) (((i : Int))) ((lst g ((i : Int)) a)) (⟨by omega, by first | exact h_b.trans (bst_no (fun q => hb_27 q.1.1)).symm | exact h_b.trans (bst_no (fun q => q.1.2 c_50)).symm | exact (bst_yes ⟨⟨hb_27, c_50⟩, Or.inl (h_b.symm.trans c_57)⟩).symm | exact (bst_yes ⟨⟨hb_27, c_50⟩, Or.inr (by rw [← h_b, ← hbc]; exact c_64)⟩).symm | exact h_b.trans (bst_no (fun q => q.2.elim (fun z => c_57 (h_b.trans z)) (fun z => by rw [← h_b, ← hbc] at z; omega))).symm, by first | exact h_c | exact Or.inr rfl⟩) (by omega) ls (lv_sub hl [4, 5, 6, 2, 1, 0] rfl)
        · have hbc : bc = lst g b a := h_c.elim (fun q => absurd q c_57) id
          have hlb := lst_bd hI (c := b) (a := a) (by omega) (by omega) (by omega) (by omega)
          refine lv_iload (pc := 60) hx hb dX4_bestCostume_60 (lv_at hl 0 rfl) ?_
          refine lv_iload (pc := 62) hx hb dX4_bestCostume_62 (lv_at hl 5 rfl) ?_
          refine zr_icmp_ge (pc := 64) (tgt := 74) hx hb dX4_bestCostume_64 (by decide) (by omega) (by omega) (fun c_64 => ?_) (fun c_64 => ?_)
          · refine zr_iinc (pc := 74) (d := ((i : Int)) + 1) (lv' := [(5, .int (zI (((i : Int)) + 1))), (6, .int (zI (lst g ((i : Int)) a))), (0, .ref (ad 0)), (1, .int (zI (sc))), (2, .int (zI (a))), (3, .int (zI (b))), (4, .int (zI (bc)))]) hx hb dX4_bestCostume_74 hl (k := 6) rfl rfl (by decide) rfl (fun ls hl => ?_)
            refine lv_goto (pc := 77) (tgt := 10) hx hb dX4_bestCostume_77 (by decide) ?_
            exact ih_10 (i + 1) (b) (bc) (⟨by omega, by first | exact h_b.trans (bst_no (fun q => hb_27 q.1.1)).symm | exact h_b.trans (bst_no (fun q => q.1.2 c_50)).symm | exact (bst_yes ⟨⟨hb_27, c_50⟩, Or.inl (h_b.symm.trans c_57)⟩).symm | exact (bst_yes ⟨⟨hb_27, c_50⟩, Or.inr (by rw [← h_b, ← hbc]; exact c_64)⟩).symm | exact h_b.trans (bst_no (fun q => q.2.elim (fun z => c_57 (h_b.trans z)) (fun z => by rw [← h_b, ← hbc] at z; omega))).symm, by first | exact h_c | exact Or.inr rfl⟩) (by omega) ls (lv_sub hl [2, 3, 4, 5, 6, 0] rfl)
          · refine lv_iload (pc := 67) hx hb dX4_bestCostume_67 (lv_at hl 6 rfl) ?_
            refine lv_istore_n (pc := 69) (lv' := [(3, .int (zI ((i : Int)))), (6, .int (zI (lst g ((i : Int)) a))), (0, .ref (ad 0)), (1, .int (zI (sc))), (2, .int (zI (a))), (4, .int (zI (bc))), (5, .int (zI ((i : Int))))]) hx hb dX4_bestCostume_69 rfl hl (by decide) rfl (fun ls hl => ?_)
            refine lv_iload (pc := 70) hx hb dX4_bestCostume_70 (lv_at hl 1 rfl) ?_
            refine lv_istore (pc := 72) (lv' := [(4, .int (zI (lst g ((i : Int)) a))), (3, .int (zI ((i : Int)))), (6, .int (zI (lst g ((i : Int)) a))), (0, .ref (ad 0)), (1, .int (zI (sc))), (2, .int (zI (a))), (5, .int (zI ((i : Int))))]) hx hb dX4_bestCostume_72 hl (by decide) rfl (fun ls hl => ?_)
            refine zr_iinc (pc := 74) (d := ((i : Int)) + 1) (lv' := [(5, .int (zI (((i : Int)) + 1))), (4, .int (zI (lst g ((i : Int)) a))), (3, .int (zI ((i : Int)))), (6, .int (zI (lst g ((i : Int)) a))), (0, .ref (ad 0)), (1, .int (zI (sc))), (2, .int (zI (a)))]) hx hb dX4_bestCostume_74 hl (k := 6) rfl rfl (by decide) rfl (fun ls hl => ?_)
            refine lv_goto (pc := 77) (tgt := 10) hx hb dX4_bestCostume_77 (by decide) ?_
            exact ih_10 (i + 1) (((i : Int))) ((lst g ((i : Int)) a)) (⟨by omega, by first | exact h_b.trans (bst_no (fun q => hb_27 q.1.1)).symm | exact h_b.trans (bst_no (fun q => q.1.2 c_50)).symm | exact (bst_yes ⟨⟨hb_27, c_50⟩, Or.inl (h_b.symm.trans c_57)⟩).symm | exact (bst_yes ⟨⟨hb_27, c_50⟩, Or.inr (by rw [← h_b, ← hbc]; exact c_64)⟩).symm | exact h_b.trans (bst_no (fun q => q.2.elim (fun z => c_57 (h_b.trans z)) (fun z => by rw [← h_b, ← hbc] at z; omega))).symm, by first | exact h_c | exact Or.inr rfl⟩) (by omega) ls (lv_sub hl [4, 5, 6, 2, 1, 0] rfl)
    · refine zr_if_ne (pc := 30) (tgt := 36) hx hb dX4_bestCostume_30 (by decide) (by decide) (fun z => absurd z (by decide)) (fun _ => ?_)
      refine lv_goto (pc := 33) (tgt := 74) hx hb dX4_bestCostume_33 (by decide) ?_
      refine zr_iinc (pc := 74) (d := ((i : Int)) + 1) (lv' := [(5, .int (zI (((i : Int)) + 1))), (0, .ref (ad 0)), (1, .int (zI (sc))), (2, .int (zI (a))), (3, .int (zI (b))), (4, .int (zI (bc)))]) hx hb dX4_bestCostume_74 hl (k := 5) rfl rfl (by decide) rfl (fun ls hl => ?_)
      refine lv_goto (pc := 77) (tgt := 10) hx hb dX4_bestCostume_77 (by decide) ?_
      exact ih_10 (i + 1) (b) (bc) (⟨by omega, by first | exact h_b.trans (bst_no (fun q => hb_27 q.1.1)).symm | exact h_b.trans (bst_no (fun q => q.1.2 c_50)).symm | exact (bst_yes ⟨⟨hb_27, c_50⟩, Or.inl (h_b.symm.trans c_57)⟩).symm | exact (bst_yes ⟨⟨hb_27, c_50⟩, Or.inr (by rw [← h_b, ← hbc]; exact c_64)⟩).symm | exact h_b.trans (bst_no (fun q => q.2.elim (fun z => c_57 (h_b.trans z)) (fun z => by rw [← h_b, ← hbc] at z; omega))).symm, by first | exact h_c | exact Or.inr rfl⟩) (by omega) ls (lv_sub hl [1, 2, 3, 4, 5, 0] rfl)
set_option maxHeartbeats 4000000 in
set_option maxRecDepth 100000 in
theorem ct_X4_wornTwice (l : Launch) (D : va_G) (cI cT : ClassId) (ad : Nat → Nat) (σ : Nat → Int → Int) (g : Int → Int) (hR : Rel σ g) (hI : Inv g)   : zMr l yX4_wornTwice wsX4_wornTwice ({ frames := 3, cells := 0, slots := 0, locals := 67 }) D cI cT [.ref (ad 0)] (fun _ H => zW D ad 20 (sC cI ad σ) H) (fun r => r = zI (pb0 g)) := by
  refine Met.ofW (cc := cX4_wornTwice) (maxL := 4) (ret := (some .int)) (by decide) rfl ?_
  intro p_ e_ s m_ args below meth c_ s₁ B hml hv
  obtain ⟨rfl, hK, hF⟩ := hv
  have hx := B.exec
  have hb := B.bytes
  have hr := B.returns
  have hts := atoms_spec (ws := wsX4_wornTwice) B.pre
  have hown : s.vm.findClass RX4 = some m_.cls := findClass_of_methodNamed B.named
  have hlocks := B.notSynchronized
  have S : CallFix p_ m_ c_ cX4_wornTwice 4 s _ wsX4_wornTwice RX4 := ⟨hx, hb, hml, hown, hts⟩
  have i_X4 : ∀ w ∈ u_ws RX4 TX4 9, w ∈ wsX4_wornTwice := fun _ h => List.mem_cons_of_mem _ (List.mem_append_left _ (List.mem_append_left _ (List.mem_append_right _ h)))
  have i_X6 : ∀ w ∈ u_ws RX6 TX6 9, w ∈ wsX4_wornTwice := fun _ h => List.mem_cons_of_mem _ (List.mem_append_left _ (List.mem_append_right _ h))
  have hP := hF
  have hnC := iv_nC hI
  have hnA := iv_nA hI
  have hl := lv_entry ([.ref (ad 0)]) (n := 4) (Nat.le_of_ble_eq_true rfl)
  rw [lg_entry_eq]
  generalize (lg_sl ([.ref (ad 0)]) ++ List.replicate (4 - (lg_sl ([.ref (ad 0)])).length) Slot.unset).toArray = ls at hl ⊢
  have hl : lv_has ls 4 [(0, .ref (ad 0))] := hl
  refine lv_iconst (pc := 0) (v := zI 0) hx hb dX4_wornTwice_0 rfl ?_
  refine lv_istore_n (pc := 1) (lv' := [(1, .int (zI (0))), (0, .ref (ad 0))]) hx hb dX4_wornTwice_1 rfl hl (by decide) rfl (fun ls hl => ?_)
  refine lv_iconst (pc := 2) (v := zI 0) hx hb dX4_wornTwice_2 rfl ?_
  refine lv_istore_n (pc := 3) (lv' := [(2, .int (zI (0))), (1, .int (zI (0))), (0, .ref (ad 0))]) hx hb dX4_wornTwice_3 rfl hl (by decide) rfl (fun ls hl => ?_)
  refine zr_loop2 (fun (i : Nat) (x : Int) => ((i : Int) ≤ 12) ∧ (x = sm (fun sc => sm (fun c => ti (1 < wrs g sc c)) (g 0).toNat) i)) (fun (i : Nat) (x : Int) => (12 : Int).toNat - i) (fun (i : Nat) (x : Int) => [(0, .ref (ad 0)), (1, .int (zI (x))), (2, .int (zI ((i : Int))))]) ?_ (0) (0) (⟨by omega, by rw [sm_0]⟩) (lv_sub hl [2, 1, 0] rfl)
  intro i x hinv ih_4 ls hl
  obtain ⟨h_i, h_x⟩ := hinv
  refine lv_iload_n (pc := 4) hx hb dX4_wornTwice_4 rfl (lv_at hl 2 rfl) ?_
  refine lv_bipush (pc := 5) (v := zI 12) hx hb dX4_wornTwice_5 zc_bipush_12 ?_
  refine zr_icmp_ge (pc := 7) (tgt := 51) hx hb dX4_wornTwice_7 (by decide) (by omega) (by decide) (fun c_7 => ?_) (fun c_7 => ?_)
  · refine lv_iload_n (pc := 51) hx hb dX4_wornTwice_51 rfl (lv_at hl 1 rfl) ?_
    exact W.iret (v := zI (x)) hx hb hr (fun tz ht hW => ⟨_, rfl, congrArg zI (by rw [h_x, show i = 12 by omega, pb0]), ht⟩) (fun _ h => by cases h) dX4_wornTwice_52
  · refine lv_iconst (pc := 10) (v := zI 0) hx hb dX4_wornTwice_10 rfl ?_
    refine lv_istore_n (pc := 11) (lv' := [(3, .int (zI (0))), (0, .ref (ad 0)), (1, .int (zI (x))), (2, .int (zI ((i : Int))))]) hx hb dX4_wornTwice_11 rfl hl (by decide) rfl (fun ls hl => ?_)
    refine zr_loop2 (fun (j : Nat) (y : Int) => ((j : Int) ≤ g 0) ∧ (y = x + sm (fun c => ti (1 < wrs g i c)) j)) (fun (j : Nat) (y : Int) => (g 0 : Int).toNat - j) (fun (j : Nat) (y : Int) => [(0, .ref (ad 0)), (2, .int (zI ((i : Int)))), (1, .int (zI (y))), (3, .int (zI ((j : Int))))]) ?_ (0) (x) (⟨by omega, by rw [sm_0]; omega⟩) (lv_sub hl [1, 3, 2, 0] rfl)
    intro j y hinv ih_12 ls hl
    obtain ⟨h_j, h_y⟩ := hinv
    refine lv_iload_n (pc := 12) hx hb dX4_wornTwice_12 rfl (lv_at hl 3 rfl) ?_
    refine lv_aload_n (pc := 13) hx hb dX4_wornTwice_13 rfl (lv_at hl 0 rfl) ?_
    refine zr_get (pc := 14) S hK (hP 0 (by decide)) rfl i_X4 0 (by decide) (List.mem_of_getElem? (i := 1) rfl) rfl dX4_wornTwice_14 ?_
    refine zr_get (pc := 17) S hK (hP 1 (by decide)) rfl i_X6 0 (by decide) (List.mem_of_getElem? (i := 2) rfl) rfl dX4_wornTwice_17 ?_
    refine zr_top (b := g 0) (rl_nC hR) ?_
    refine zr_icmp_ge (pc := 20) (tgt := 45) hx hb dX4_wornTwice_20 (by decide) (by omega) (by omega) (fun c_20 => ?_) (fun c_20 => ?_)
    · refine zr_iinc (pc := 45) (d := ((i : Int)) + 1) (lv' := [(2, .int (zI (((i : Int)) + 1))), (0, .ref (ad 0)), (1, .int (zI (y))), (3, .int (zI ((j : Int))))]) hx hb dX4_wornTwice_45 hl (k := 1) rfl rfl (by decide) rfl (fun ls hl => ?_)
      refine lv_goto (pc := 48) (tgt := 4) hx hb dX4_wornTwice_48 (by decide) ?_
      exact ih_4 (i + 1) (y) (⟨by omega, by rw [sm_s, h_y, h_x, show j = (g 0).toNat by omega]⟩) (by omega) ls (lv_sub hl [1, 2, 0] rfl)
    · refine lv_aload_n (pc := 23) hx hb dX4_wornTwice_23 rfl (lv_at hl 0 rfl) ?_
      refine zr_get (pc := 24) S hK (hP 0 (by decide)) rfl i_X4 1 (by decide) (List.mem_of_getElem? (i := 3) rfl) rfl dX4_wornTwice_24 ?_
      refine lv_iload_n (pc := 27) hx hb dX4_wornTwice_27 rfl (lv_at hl 1 rfl) ?_
      refine lv_iload_n (pc := 28) hx hb dX4_wornTwice_28 rfl (lv_at hl 3 rfl) ?_
      refine zr_vi (pc := 29) (As := [.int (zI ((i : Int))), .int (zI ((j : Int)))]) (rest := []) S (ct_X0_wearers l D cI cT ad σ g hR hI ((i : Int)) ((j : Int)) (by omega) (by omega) (by omega) (by omega)) (cwV 2 hts gX4_wornTwice_X0_wearers rfl rfl rfl (by decide +kernel) ⟨Nat.le_of_ble_eq_true rfl, Nat.le_of_ble_eq_true rfl⟩) zs0 hK hP (zr_recv hK (hP 2 (by decide)) rfl) rfl hl.1 rfl (Nat.le_of_ble_eq_true rfl) dX4_wornTwice_29 ⟨Nat.le_of_ble_eq_true rfl, Nat.le_of_ble_eq_true rfl⟩ (fun r_29 hr_29 => ?_)
      subst hr_29
      have hw_29 := wrs_bd hI (((i : Int))) (((j : Int)))
      refine lv_iconst (pc := 32) (v := zI 1) hx hb dX4_wornTwice_32 rfl ?_
      refine zr_icmp_le (pc := 33) (tgt := 39) hx hb dX4_wornTwice_33 (by decide) (by omega) (by decide) (fun c_33 => ?_) (fun c_33 => ?_)
      · refine zr_iinc (pc := 39) (d := ((j : Int)) + 1) (lv' := [(3, .int (zI (((j : Int)) + 1))), (0, .ref (ad 0)), (2, .int (zI ((i : Int)))), (1, .int (zI (y)))]) hx hb dX4_wornTwice_39 hl (k := 3) rfl rfl (by decide) rfl (fun ls hl => ?_)
        refine lv_goto (pc := 42) (tgt := 12) hx hb dX4_wornTwice_42 (by decide) ?_
        exact ih_12 (j + 1) (y) (⟨by omega, by rw [sm_s]; first | (rw [ti_t c_33]; omega) | (rw [ti_f (by omega)]; omega)⟩) (by omega) ls (lv_sub hl [1, 2, 3, 0] rfl)
      · refine zr_iinc (pc := 36) (d := y + 1) (lv' := [(1, .int (zI (y + 1))), (0, .ref (ad 0)), (2, .int (zI ((i : Int)))), (3, .int (zI ((j : Int))))]) hx hb dX4_wornTwice_36 hl (k := 2) rfl rfl (by decide) rfl (fun ls hl => ?_)
        refine zr_iinc (pc := 39) (d := ((j : Int)) + 1) (lv' := [(3, .int (zI (((j : Int)) + 1))), (1, .int (zI (y + 1))), (0, .ref (ad 0)), (2, .int (zI ((i : Int))))]) hx hb dX4_wornTwice_39 hl (k := 3) rfl rfl (by decide) rfl (fun ls hl => ?_)
        refine lv_goto (pc := 42) (tgt := 12) hx hb dX4_wornTwice_42 (by decide) ?_
        exact ih_12 (j + 1) ((y + 1)) (⟨by omega, by rw [sm_s]; first | (rw [ti_t c_33]; omega) | (rw [ti_f (by omega)]; omega)⟩) (by omega) ls (lv_sub hl [2, 3, 1, 0] rfl)
set_option maxHeartbeats 4000000 in
set_option maxRecDepth 100000 in
theorem ct_X4_handedOver (l : Launch) (D : va_G) (cI cT : ClassId) (ad : Nat → Nat) (σ : Nat → Int → Int) (g : Int → Int) (hR : Rel σ g) (hI : Inv g)   : zMr l yX4_handedOver wsX4_handedOver ({ frames := 4, cells := 0, slots := 0, locals := 90 }) D cI cT [.ref (ad 0)] (fun _ H => zW D ad 20 (sC cI ad σ) H) (fun r => r = zI (pb1 g)) := by
  refine Met.ofW (cc := cX4_handedOver) (maxL := 4) (ret := (some .int)) (by decide) rfl ?_
  intro p_ e_ s m_ args below meth c_ s₁ B hml hv
  obtain ⟨rfl, hK, hF⟩ := hv
  have hx := B.exec
  have hb := B.bytes
  have hr := B.returns
  have hts := atoms_spec (ws := wsX4_handedOver) B.pre
  have hown : s.vm.findClass RX4 = some m_.cls := findClass_of_methodNamed B.named
  have hlocks := B.notSynchronized
  have S : CallFix p_ m_ c_ cX4_handedOver 4 s _ wsX4_handedOver RX4 := ⟨hx, hb, hml, hown, hts⟩
  have i_X4 : ∀ w ∈ u_ws RX4 TX4 9, w ∈ wsX4_handedOver := fun _ h => List.mem_cons_of_mem _ (List.mem_append_left _ (List.mem_append_left _ (List.mem_append_right _ h)))
  have i_X6 : ∀ w ∈ u_ws RX6 TX6 9, w ∈ wsX4_handedOver := fun _ h => List.mem_cons_of_mem _ (List.mem_append_left _ (List.mem_append_right _ h))
  have hP := hF
  have hnC := iv_nC hI
  have hnA := iv_nA hI
  have hl := lv_entry ([.ref (ad 0)]) (n := 4) (Nat.le_of_ble_eq_true rfl)
  rw [lg_entry_eq]
  generalize (lg_sl ([.ref (ad 0)]) ++ List.replicate (4 - (lg_sl ([.ref (ad 0)])).length) Slot.unset).toArray = ls at hl ⊢
  have hl : lv_has ls 4 [(0, .ref (ad 0))] := hl
  refine lv_iconst (pc := 0) (v := zI 0) hx hb dX4_handedOver_0 rfl ?_
  refine lv_istore_n (pc := 1) (lv' := [(1, .int (zI (0))), (0, .ref (ad 0))]) hx hb dX4_handedOver_1 rfl hl (by decide) rfl (fun ls hl => ?_)
  refine lv_iconst (pc := 2) (v := zI 0) hx hb dX4_handedOver_2 rfl ?_
  refine lv_istore_n (pc := 3) (lv' := [(2, .int (zI (0))), (1, .int (zI (0))), (0, .ref (ad 0))]) hx hb dX4_handedOver_3 rfl hl (by decide) rfl (fun ls hl => ?_)
  refine zr_loop2 (fun (i : Nat) (x : Int) => ((i : Int) ≤ 11) ∧ (x = sm (fun sc => sm (fun c => ti (hnd g sc c)) (g 0).toNat) i)) (fun (i : Nat) (x : Int) => (11 : Int).toNat - i) (fun (i : Nat) (x : Int) => [(0, .ref (ad 0)), (1, .int (zI (x))), (2, .int (zI ((i : Int))))]) ?_ (0) (0) (⟨by omega, by rw [sm_0]⟩) (lv_sub hl [2, 1, 0] rfl)
  intro i x hinv ih_4 ls hl
  obtain ⟨h_i, h_x⟩ := hinv
  refine lv_iload_n (pc := 4) hx hb dX4_handedOver_4 rfl (lv_at hl 2 rfl) ?_
  refine lv_iconst (pc := 5) (v := zI 1) hx hb dX4_handedOver_5 rfl ?_
  refine zr_iadd (pc := 6) (d := ((i : Int)) + 1) hx hb dX4_handedOver_6 rfl ?_
  refine lv_bipush (pc := 7) (v := zI 12) hx hb dX4_handedOver_7 zc_bipush_12 ?_
  refine zr_icmp_ge (pc := 9) (tgt := 52) hx hb dX4_handedOver_9 (by decide) (by omega) (by decide) (fun c_9 => ?_) (fun c_9 => ?_)
  · refine lv_iload_n (pc := 52) hx hb dX4_handedOver_52 rfl (lv_at hl 1 rfl) ?_
    exact W.iret (v := zI (x)) hx hb hr (fun tz ht hW => ⟨_, rfl, congrArg zI (by rw [h_x, show i = 11 by omega, pb1]), ht⟩) (fun _ h => by cases h) dX4_handedOver_53
  · refine lv_iconst (pc := 12) (v := zI 0) hx hb dX4_handedOver_12 rfl ?_
    refine lv_istore_n (pc := 13) (lv' := [(3, .int (zI (0))), (0, .ref (ad 0)), (1, .int (zI (x))), (2, .int (zI ((i : Int))))]) hx hb dX4_handedOver_13 rfl hl (by decide) rfl (fun ls hl => ?_)
    refine zr_loop2 (fun (j : Nat) (y : Int) => ((j : Int) ≤ g 0) ∧ (y = x + sm (fun c => ti (hnd g i c)) j)) (fun (j : Nat) (y : Int) => (g 0 : Int).toNat - j) (fun (j : Nat) (y : Int) => [(0, .ref (ad 0)), (2, .int (zI ((i : Int)))), (1, .int (zI (y))), (3, .int (zI ((j : Int))))]) ?_ (0) (x) (⟨by omega, by rw [sm_0]; omega⟩) (lv_sub hl [1, 3, 2, 0] rfl)
    intro j y hinv ih_14 ls hl
    obtain ⟨h_j, h_y⟩ := hinv
    refine lv_iload_n (pc := 14) hx hb dX4_handedOver_14 rfl (lv_at hl 3 rfl) ?_
    refine lv_aload_n (pc := 15) hx hb dX4_handedOver_15 rfl (lv_at hl 0 rfl) ?_
    refine zr_get (pc := 16) S hK (hP 0 (by decide)) rfl i_X4 0 (by decide) (List.mem_of_getElem? (i := 1) rfl) rfl dX4_handedOver_16 ?_
    refine zr_get (pc := 19) S hK (hP 1 (by decide)) rfl i_X6 0 (by decide) (List.mem_of_getElem? (i := 2) rfl) rfl dX4_handedOver_19 ?_
    refine zr_top (b := g 0) (rl_nC hR) ?_
    refine zr_icmp_ge (pc := 22) (tgt := 46) hx hb dX4_handedOver_22 (by decide) (by omega) (by omega) (fun c_22 => ?_) (fun c_22 => ?_)
    · refine zr_iinc (pc := 46) (d := ((i : Int)) + 1) (lv' := [(2, .int (zI (((i : Int)) + 1))), (0, .ref (ad 0)), (1, .int (zI (y))), (3, .int (zI ((j : Int))))]) hx hb dX4_handedOver_46 hl (k := 1) rfl rfl (by decide) rfl (fun ls hl => ?_)
      refine lv_goto (pc := 49) (tgt := 4) hx hb dX4_handedOver_49 (by decide) ?_
      exact ih_4 (i + 1) (y) (⟨by omega, by rw [sm_s, h_y, h_x, show j = (g 0).toNat by omega]⟩) (by omega) ls (lv_sub hl [1, 2, 0] rfl)
    · refine lv_aload_n (pc := 25) hx hb dX4_handedOver_25 rfl (lv_at hl 0 rfl) ?_
      refine zr_get (pc := 26) S hK (hP 0 (by decide)) rfl i_X4 1 (by decide) (List.mem_of_getElem? (i := 3) rfl) rfl dX4_handedOver_26 ?_
      refine lv_iload_n (pc := 29) hx hb dX4_handedOver_29 rfl (lv_at hl 1 rfl) ?_
      refine lv_iload_n (pc := 30) hx hb dX4_handedOver_30 rfl (lv_at hl 3 rfl) ?_
      refine zr_vi (pc := 31) (As := [.int (zI ((i : Int))), .int (zI ((j : Int)))]) (rest := []) S (ct_X0_isHandedOver l D cI cT ad σ g hR hI ((i : Int)) ((j : Int)) (by omega) (by omega) (by omega) (by omega)) (cwV 2 hts gX4_handedOver_X0_isHandedOver rfl rfl rfl (by decide +kernel) ⟨Nat.le_of_ble_eq_true rfl, Nat.le_of_ble_eq_true rfl⟩) zs0 hK hP (zr_recv hK (hP 2 (by decide)) rfl) rfl hl.1 rfl (Nat.le_of_ble_eq_true rfl) dX4_handedOver_31 ⟨Nat.le_of_ble_eq_true rfl, Nat.le_of_ble_eq_true rfl⟩ (fun r_31 hr_31 => ?_)
      rcases hr_31 with ⟨hb_31, rfl⟩ | ⟨hb_31, rfl⟩
      · refine zr_if_eq (pc := 34) (tgt := 40) hx hb dX4_handedOver_34 (by decide) (by decide) (fun z => absurd z (by decide)) (fun _ => ?_)
        refine zr_iinc (pc := 37) (d := y + 1) (lv' := [(1, .int (zI (y + 1))), (0, .ref (ad 0)), (2, .int (zI ((i : Int)))), (3, .int (zI ((j : Int))))]) hx hb dX4_handedOver_37 hl (k := 2) rfl rfl (by decide) rfl (fun ls hl => ?_)
        refine zr_iinc (pc := 40) (d := ((j : Int)) + 1) (lv' := [(3, .int (zI (((j : Int)) + 1))), (1, .int (zI (y + 1))), (0, .ref (ad 0)), (2, .int (zI ((i : Int))))]) hx hb dX4_handedOver_40 hl (k := 3) rfl rfl (by decide) rfl (fun ls hl => ?_)
        refine lv_goto (pc := 43) (tgt := 14) hx hb dX4_handedOver_43 (by decide) ?_
        exact ih_14 (j + 1) ((y + 1)) (⟨by omega, by rw [sm_s]; first | (rw [ti_t hb_31]; omega) | (rw [ti_f hb_31]; omega)⟩) (by omega) ls (lv_sub hl [2, 3, 1, 0] rfl)
      · refine zr_if_eq (pc := 34) (tgt := 40) hx hb dX4_handedOver_34 (by decide) (by decide) (fun _ => ?_) (fun z => absurd z (by decide))
        refine zr_iinc (pc := 40) (d := ((j : Int)) + 1) (lv' := [(3, .int (zI (((j : Int)) + 1))), (0, .ref (ad 0)), (2, .int (zI ((i : Int)))), (1, .int (zI (y)))]) hx hb dX4_handedOver_40 hl (k := 3) rfl rfl (by decide) rfl (fun ls hl => ?_)
        refine lv_goto (pc := 43) (tgt := 14) hx hb dX4_handedOver_43 (by decide) ?_
        exact ih_14 (j + 1) (y) (⟨by omega, by rw [sm_s]; first | (rw [ti_t hb_31]; omega) | (rw [ti_f hb_31]; omega)⟩) (by omega) ls (lv_sub hl [1, 2, 3, 0] rfl)
set_option maxHeartbeats 4000000 in
set_option maxRecDepth 100000 in
theorem ct_X4_wornAmiss (l : Launch) (D : va_G) (cI cT : ClassId) (ad : Nat → Nat) (σ : Nat → Int → Int) (g : Int → Int) (hR : Rel σ g) (hI : Inv g) (k : Int) (k0 : 2 ≤ k) (k1 : k ≤ 4) : zMr l yX4_wornAmiss wsX4_wornAmiss ({ frames := 5, cells := 0, slots := 0, locals := 119 }) D cI cT [.ref (ad 0), .int (zI (k))] (fun _ H => zW D ad 20 (sC cI ad σ) H) (fun r => r = zI (pb2 g k)) := by
  refine Met.ofW (cc := cX4_wornAmiss) (maxL := 7) (ret := (some .int)) (by decide) rfl ?_
  intro p_ e_ s m_ args below meth c_ s₁ B hml hv
  obtain ⟨rfl, hK, hF⟩ := hv
  have hx := B.exec
  have hb := B.bytes
  have hr := B.returns
  have hts := atoms_spec (ws := wsX4_wornAmiss) B.pre
  have hown : s.vm.findClass RX4 = some m_.cls := findClass_of_methodNamed B.named
  have hlocks := B.notSynchronized
  have S : CallFix p_ m_ c_ cX4_wornAmiss 7 s _ wsX4_wornAmiss RX4 := ⟨hx, hb, hml, hown, hts⟩
  have i_X4 : ∀ w ∈ u_ws RX4 TX4 9, w ∈ wsX4_wornAmiss := fun _ h => List.mem_cons_of_mem _ (List.mem_append_left _ (List.mem_append_left _ (List.mem_append_left _ (List.mem_append_right _ h))))
  have i_X0 : ∀ w ∈ u_ws RX0 TX0 3, w ∈ wsX4_wornAmiss := fun _ h => List.mem_cons_of_mem _ (List.mem_append_left _ (List.mem_append_left _ (List.mem_append_right _ h)))
  have hP := hF
  have hnC := iv_nC hI
  have hnA := iv_nA hI
  have hl := lv_entry ([.ref (ad 0), .int (zI (k))]) (n := 7) (Nat.le_of_ble_eq_true rfl)
  rw [lg_entry_eq]
  generalize (lg_sl ([.ref (ad 0), .int (zI (k))]) ++ List.replicate (7 - (lg_sl ([.ref (ad 0), .int (zI (k))])).length) Slot.unset).toArray = ls at hl ⊢
  have hl : lv_has ls 7 [(0, .ref (ad 0)), (1, .int (zI (k)))] := hl
  refine lv_iconst (pc := 0) (v := zI 0) hx hb dX4_wornAmiss_0 rfl ?_
  refine lv_istore_n (pc := 1) (lv' := [(2, .int (zI (0))), (0, .ref (ad 0)), (1, .int (zI (k)))]) hx hb dX4_wornAmiss_1 rfl hl (by decide) rfl (fun ls hl => ?_)
  refine lv_iconst (pc := 2) (v := zI 0) hx hb dX4_wornAmiss_2 rfl ?_
  refine lv_istore_n (pc := 3) (lv' := [(3, .int (zI (0))), (2, .int (zI (0))), (0, .ref (ad 0)), (1, .int (zI (k)))]) hx hb dX4_wornAmiss_3 rfl hl (by decide) rfl (fun ls hl => ?_)
  refine zr_loop2 (fun (i : Nat) (x : Int) => ((i : Int) ≤ 12) ∧ (x = sm (fun sc => sm (fun a => ti (amw g k sc a)) (g 1).toNat) i)) (fun (i : Nat) (x : Int) => (12 : Int).toNat - i) (fun (i : Nat) (x : Int) => [(0, .ref (ad 0)), (1, .int (zI (k))), (2, .int (zI (x))), (3, .int (zI ((i : Int))))]) ?_ (0) (0) (⟨by omega, by rw [sm_0]⟩) (lv_sub hl [2, 3, 1, 0] rfl)
  intro i x hinv ih_4 ls hl
  obtain ⟨h_i, h_x⟩ := hinv
  refine lv_iload_n (pc := 4) hx hb dX4_wornAmiss_4 rfl (lv_at hl 3 rfl) ?_
  refine lv_bipush (pc := 5) (v := zI 12) hx hb dX4_wornAmiss_5 zc_bipush_12 ?_
  refine zr_icmp_ge (pc := 7) (tgt := 112) hx hb dX4_wornAmiss_7 (by decide) (by omega) (by decide) (fun c_7 => ?_) (fun c_7 => ?_)
  · refine lv_iload_n (pc := 112) hx hb dX4_wornAmiss_112 rfl (lv_at hl 2 rfl) ?_
    exact W.iret (v := zI (x)) hx hb hr (fun tz ht hW => ⟨_, rfl, congrArg zI (by rw [h_x, show i = 12 by omega, pb2]), ht⟩) (fun _ h => by cases h) dX4_wornAmiss_113
  · refine lv_iconst (pc := 10) (v := zI 0) hx hb dX4_wornAmiss_10 rfl ?_
    refine lv_istore (pc := 11) (lv' := [(4, .int (zI (0))), (0, .ref (ad 0)), (1, .int (zI (k))), (2, .int (zI (x))), (3, .int (zI ((i : Int))))]) hx hb dX4_wornAmiss_11 hl (by decide) rfl (fun ls hl => ?_)
    refine zr_loop2 (fun (j : Nat) (y : Int) => ((j : Int) ≤ g 1) ∧ (y = x + sm (fun a => ti (amw g k i a)) j)) (fun (j : Nat) (y : Int) => (g 1 : Int).toNat - j) (fun (j : Nat) (y : Int) => [(0, .ref (ad 0)), (1, .int (zI (k))), (3, .int (zI ((i : Int)))), (2, .int (zI (y))), (4, .int (zI ((j : Int))))]) ?_ (0) (x) (⟨by omega, by rw [sm_0]; omega⟩) (lv_sub hl [1, 2, 4, 3, 0] rfl)
    intro j y hinv ih_13 ls hl
    obtain ⟨h_j, h_y⟩ := hinv
    refine lv_iload (pc := 13) hx hb dX4_wornAmiss_13 (lv_at hl 4 rfl) ?_
    refine lv_aload_n (pc := 15) hx hb dX4_wornAmiss_15 rfl (lv_at hl 0 rfl) ?_
    refine zr_get (pc := 16) S hK (hP 0 (by decide)) rfl i_X4 1 (by decide) (List.mem_of_getElem? (i := 1) rfl) rfl dX4_wornAmiss_16 ?_
    refine zr_get (pc := 19) S hK (hP 2 (by decide)) rfl i_X0 0 (by decide) (List.mem_of_getElem? (i := 2) rfl) rfl dX4_wornAmiss_19 ?_
    refine zr_top (b := g 1) (rl_nA hR) ?_
    refine zr_icmp_ge (pc := 22) (tgt := 106) hx hb dX4_wornAmiss_22 (by decide) (by omega) (by omega) (fun c_22 => ?_) (fun c_22 => ?_)
    · refine zr_iinc (pc := 106) (d := ((i : Int)) + 1) (lv' := [(3, .int (zI (((i : Int)) + 1))), (0, .ref (ad 0)), (1, .int (zI (k))), (2, .int (zI (y))), (4, .int (zI ((j : Int))))]) hx hb dX4_wornAmiss_106 hl (k := 2) rfl rfl (by decide) rfl (fun ls hl => ?_)
      refine lv_goto (pc := 109) (tgt := 4) hx hb dX4_wornAmiss_109 (by decide) ?_
      exact ih_4 (i + 1) (y) (⟨by omega, by rw [sm_s, h_y, h_x, show j = (g 1).toNat by omega]⟩) (by omega) ls (lv_sub hl [1, 2, 3, 0] rfl)
    · refine lv_aload_n (pc := 25) hx hb dX4_wornAmiss_25 rfl (lv_at hl 0 rfl) ?_
      refine zr_get (pc := 26) S hK (hP 0 (by decide)) rfl i_X4 1 (by decide) (List.mem_of_getElem? (i := 1) rfl) rfl dX4_wornAmiss_26 ?_
      refine lv_iload_n (pc := 29) hx hb dX4_wornAmiss_29 rfl (lv_at hl 2 rfl) ?_
      refine lv_iload (pc := 30) hx hb dX4_wornAmiss_30 (lv_at hl 4 rfl) ?_
      refine zr_vi (pc := 32) (As := [.int (zI ((i : Int))), .int (zI ((j : Int)))]) (rest := []) S (ct_X0_wornIn l D cI cT ad σ g hR hI ((i : Int)) ((j : Int)) (by omega) (by omega) (by omega) (by omega)) (cwV 2 hts gX4_wornAmiss_X0_wornIn rfl rfl rfl (by decide +kernel) ⟨Nat.le_of_ble_eq_true rfl, Nat.le_of_ble_eq_true rfl⟩) zs0 hK hP (zr_recv hK (hP 2 (by decide)) rfl) rfl hl.1 rfl (Nat.le_of_ble_eq_true rfl) dX4_wornAmiss_32 ⟨Nat.le_of_ble_eq_true rfl, Nat.le_of_ble_eq_true rfl⟩ (fun r_32 hr_32 => ?_)
      subst hr_32
      have hw_32 := iv_wo hI (a := ((j : Int))) (sc := ((i : Int))) (by omega) (by omega) (by omega) (by omega)
      refine lv_istore (pc := 35) (lv' := [(5, .int (zI (gW g ((i : Int)) ((j : Int))))), (0, .ref (ad 0)), (1, .int (zI (k))), (3, .int (zI ((i : Int)))), (2, .int (zI (y))), (4, .int (zI ((j : Int))))]) hx hb dX4_wornAmiss_35 hl (by decide) rfl (fun ls hl => ?_)
      refine lv_iload (pc := 37) hx hb dX4_wornAmiss_37 (lv_at hl 0 rfl) ?_
      refine lv_iconst (pc := 39) (v := zI (-1)) hx hb dX4_wornAmiss_39 rfl ?_
      refine zr_icmp_ne (pc := 40) (tgt := 46) hx hb dX4_wornAmiss_40 (by decide) (by omega) (by decide) (fun c_40 => ?_) (fun c_40 => ?_)
      · refine lv_iload_n (pc := 46) hx hb dX4_wornAmiss_46 rfl (lv_at hl 2 rfl) ?_
        refine lv_iconst (pc := 47) (v := zI 2) hx hb dX4_wornAmiss_47 rfl ?_
        refine zr_icmp_ne (pc := 48) (tgt := 70) hx hb dX4_wornAmiss_48 (by decide) (by omega) (by decide) (fun c_48 => ?_) (fun c_48 => ?_)
        · refine lv_iload_n (pc := 70) hx hb dX4_wornAmiss_70 rfl (lv_at hl 2 rfl) ?_
          refine lv_iconst (pc := 71) (v := zI 3) hx hb dX4_wornAmiss_71 rfl ?_
          refine zr_icmp_ne (pc := 72) (tgt := 84) hx hb dX4_wornAmiss_72 (by decide) (by omega) (by decide) (fun c_72 => ?_) (fun c_72 => ?_)
          · refine lv_aload_n (pc := 84) hx hb dX4_wornAmiss_84 rfl (lv_at hl 1 rfl) ?_
            refine lv_iload (pc := 85) hx hb dX4_wornAmiss_85 (lv_at hl 0 rfl) ?_
            refine zr_vi (pc := 87) (As := [.int (zI (gW g ((i : Int)) ((j : Int))))]) (rest := []) S (ct_X4_isTooDirty l D cI cT ad σ g hR hI (gW g ((i : Int)) ((j : Int))) (by omega) (by omega)) (cwV 1 hts gX4_wornAmiss_X4_isTooDirty rfl rfl rfl (by decide +kernel) ⟨Nat.le_of_ble_eq_true rfl, Nat.le_of_ble_eq_true rfl⟩) zs0 hK hP (zr_recv hK (hP 0 (by decide)) rfl) rfl hl.1 rfl (Nat.le_of_ble_eq_true rfl) dX4_wornAmiss_87 ⟨Nat.le_of_ble_eq_true rfl, Nat.le_of_ble_eq_true rfl⟩ (fun r_87 hr_87 => ?_)
            rcases hr_87 with ⟨hb_87, rfl⟩ | ⟨hb_87, rfl⟩
            · refine lv_istore (pc := 90) (lv' := [(6, .int (zI (1))), (5, .int (zI (gW g ((i : Int)) ((j : Int))))), (0, .ref (ad 0)), (1, .int (zI (k))), (3, .int (zI ((i : Int)))), (2, .int (zI (y))), (4, .int (zI ((j : Int))))]) hx hb dX4_wornAmiss_90 hl (by decide) rfl (fun ls hl => ?_)
              refine lv_iload (pc := 92) hx hb dX4_wornAmiss_92 (lv_at hl 0 rfl) ?_
              refine zr_if_eq (pc := 94) (tgt := 100) hx hb dX4_wornAmiss_94 (by decide) (by decide) (fun z => absurd z (by decide)) (fun _ => ?_)
              refine zr_iinc (pc := 97) (d := y + 1) (lv' := [(2, .int (zI (y + 1))), (6, .int (zI (1))), (5, .int (zI (gW g ((i : Int)) ((j : Int))))), (0, .ref (ad 0)), (1, .int (zI (k))), (3, .int (zI ((i : Int)))), (4, .int (zI ((j : Int))))]) hx hb dX4_wornAmiss_97 hl (k := 5) rfl rfl (by decide) rfl (fun ls hl => ?_)
              refine zr_iinc (pc := 100) (d := ((j : Int)) + 1) (lv' := [(4, .int (zI (((j : Int)) + 1))), (2, .int (zI (y + 1))), (6, .int (zI (1))), (5, .int (zI (gW g ((i : Int)) ((j : Int))))), (0, .ref (ad 0)), (1, .int (zI (k))), (3, .int (zI ((i : Int))))]) hx hb dX4_wornAmiss_100 hl (k := 6) rfl rfl (by decide) rfl (fun ls hl => ?_)
              refine lv_goto (pc := 103) (tgt := 13) hx hb dX4_wornAmiss_103 (by decide) ?_
              exact ih_13 (j + 1) ((y + 1)) (⟨by omega, by first | exact sm_no h_y (fun q => q.1 c_40) | exact sm_yes h_y ⟨c_40, Or.inl ⟨c_48, c_59⟩⟩ | exact sm_yes h_y ⟨c_40, Or.inr (Or.inl ⟨c_72, hb_78⟩)⟩ | exact sm_yes h_y ⟨c_40, Or.inr (Or.inr ⟨by omega, hb_87⟩)⟩ | exact sm_no h_y (fun q => q.2.elim (fun z => by have := z.2; omega) (fun z => z.elim (fun z => by omega) (fun z => by omega))) | exact sm_no h_y (fun q => q.2.elim (fun z => c_48 z.1) (fun z => z.elim (fun z => hb_78 z.2) (fun z => by omega))) | exact sm_no h_y (fun q => q.2.elim (fun z => c_48 z.1) (fun z => z.elim (fun z => c_72 z.1) (fun z => hb_87 z.2)))⟩) (by omega) ls (lv_sub hl [4, 5, 6, 1, 0] rfl)
            · refine lv_istore (pc := 90) (lv' := [(6, .int (zI (0))), (5, .int (zI (gW g ((i : Int)) ((j : Int))))), (0, .ref (ad 0)), (1, .int (zI (k))), (3, .int (zI ((i : Int)))), (2, .int (zI (y))), (4, .int (zI ((j : Int))))]) hx hb dX4_wornAmiss_90 hl (by decide) rfl (fun ls hl => ?_)
              refine lv_iload (pc := 92) hx hb dX4_wornAmiss_92 (lv_at hl 0 rfl) ?_
              refine zr_if_eq (pc := 94) (tgt := 100) hx hb dX4_wornAmiss_94 (by decide) (by decide) (fun _ => ?_) (fun z => absurd z (by decide))
              refine zr_iinc (pc := 100) (d := ((j : Int)) + 1) (lv' := [(4, .int (zI (((j : Int)) + 1))), (6, .int (zI (0))), (5, .int (zI (gW g ((i : Int)) ((j : Int))))), (0, .ref (ad 0)), (1, .int (zI (k))), (3, .int (zI ((i : Int)))), (2, .int (zI (y)))]) hx hb dX4_wornAmiss_100 hl (k := 6) rfl rfl (by decide) rfl (fun ls hl => ?_)
              refine lv_goto (pc := 103) (tgt := 13) hx hb dX4_wornAmiss_103 (by decide) ?_
              exact ih_13 (j + 1) (y) (⟨by omega, by first | exact sm_no h_y (fun q => q.1 c_40) | exact sm_yes h_y ⟨c_40, Or.inl ⟨c_48, c_59⟩⟩ | exact sm_yes h_y ⟨c_40, Or.inr (Or.inl ⟨c_72, hb_78⟩)⟩ | exact sm_yes h_y ⟨c_40, Or.inr (Or.inr ⟨by omega, hb_87⟩)⟩ | exact sm_no h_y (fun q => q.2.elim (fun z => by have := z.2; omega) (fun z => z.elim (fun z => by omega) (fun z => by omega))) | exact sm_no h_y (fun q => q.2.elim (fun z => c_48 z.1) (fun z => z.elim (fun z => hb_78 z.2) (fun z => by omega))) | exact sm_no h_y (fun q => q.2.elim (fun z => c_48 z.1) (fun z => z.elim (fun z => c_72 z.1) (fun z => hb_87 z.2)))⟩) (by omega) ls (lv_sub hl [3, 4, 5, 6, 0] rfl)
          · refine lv_aload_n (pc := 75) hx hb dX4_wornAmiss_75 rfl (lv_at hl 1 rfl) ?_
            refine lv_iload (pc := 76) hx hb dX4_wornAmiss_76 (lv_at hl 0 rfl) ?_
            refine zr_vi (pc := 78) (As := [.int (zI (gW g ((i : Int)) ((j : Int))))]) (rest := []) S (ct_X4_isAway l D cI cT ad σ g hR hI (gW g ((i : Int)) ((j : Int))) (by omega) (by omega)) (cwV 1 hts gX4_wornAmiss_X4_isAway rfl rfl rfl (by decide +kernel) ⟨Nat.le_of_ble_eq_true rfl, Nat.le_of_ble_eq_true rfl⟩) zs0 hK hP (zr_recv hK (hP 0 (by decide)) rfl) rfl hl.1 rfl (Nat.le_of_ble_eq_true rfl) dX4_wornAmiss_78 ⟨Nat.le_of_ble_eq_true rfl, Nat.le_of_ble_eq_true rfl⟩ (fun r_78 hr_78 => ?_)
            rcases hr_78 with ⟨hb_78, rfl⟩ | ⟨hb_78, rfl⟩
            · refine lv_goto (pc := 81) (tgt := 90) hx hb dX4_wornAmiss_81 (by decide) ?_
              refine lv_istore (pc := 90) (lv' := [(6, .int (zI (1))), (5, .int (zI (gW g ((i : Int)) ((j : Int))))), (0, .ref (ad 0)), (1, .int (zI (k))), (3, .int (zI ((i : Int)))), (2, .int (zI (y))), (4, .int (zI ((j : Int))))]) hx hb dX4_wornAmiss_90 hl (by decide) rfl (fun ls hl => ?_)
              refine lv_iload (pc := 92) hx hb dX4_wornAmiss_92 (lv_at hl 0 rfl) ?_
              refine zr_if_eq (pc := 94) (tgt := 100) hx hb dX4_wornAmiss_94 (by decide) (by decide) (fun z => absurd z (by decide)) (fun _ => ?_)
              refine zr_iinc (pc := 97) (d := y + 1) (lv' := [(2, .int (zI (y + 1))), (6, .int (zI (1))), (5, .int (zI (gW g ((i : Int)) ((j : Int))))), (0, .ref (ad 0)), (1, .int (zI (k))), (3, .int (zI ((i : Int)))), (4, .int (zI ((j : Int))))]) hx hb dX4_wornAmiss_97 hl (k := 5) rfl rfl (by decide) rfl (fun ls hl => ?_)
              refine zr_iinc (pc := 100) (d := ((j : Int)) + 1) (lv' := [(4, .int (zI (((j : Int)) + 1))), (2, .int (zI (y + 1))), (6, .int (zI (1))), (5, .int (zI (gW g ((i : Int)) ((j : Int))))), (0, .ref (ad 0)), (1, .int (zI (k))), (3, .int (zI ((i : Int))))]) hx hb dX4_wornAmiss_100 hl (k := 6) rfl rfl (by decide) rfl (fun ls hl => ?_)
              refine lv_goto (pc := 103) (tgt := 13) hx hb dX4_wornAmiss_103 (by decide) ?_
              exact ih_13 (j + 1) ((y + 1)) (⟨by omega, by first | exact sm_no h_y (fun q => q.1 c_40) | exact sm_yes h_y ⟨c_40, Or.inl ⟨c_48, c_59⟩⟩ | exact sm_yes h_y ⟨c_40, Or.inr (Or.inl ⟨c_72, hb_78⟩)⟩ | exact sm_yes h_y ⟨c_40, Or.inr (Or.inr ⟨by omega, hb_87⟩)⟩ | exact sm_no h_y (fun q => q.2.elim (fun z => by have := z.2; omega) (fun z => z.elim (fun z => by omega) (fun z => by omega))) | exact sm_no h_y (fun q => q.2.elim (fun z => c_48 z.1) (fun z => z.elim (fun z => hb_78 z.2) (fun z => by omega))) | exact sm_no h_y (fun q => q.2.elim (fun z => c_48 z.1) (fun z => z.elim (fun z => c_72 z.1) (fun z => hb_87 z.2)))⟩) (by omega) ls (lv_sub hl [4, 5, 6, 1, 0] rfl)
            · refine lv_goto (pc := 81) (tgt := 90) hx hb dX4_wornAmiss_81 (by decide) ?_
              refine lv_istore (pc := 90) (lv' := [(6, .int (zI (0))), (5, .int (zI (gW g ((i : Int)) ((j : Int))))), (0, .ref (ad 0)), (1, .int (zI (k))), (3, .int (zI ((i : Int)))), (2, .int (zI (y))), (4, .int (zI ((j : Int))))]) hx hb dX4_wornAmiss_90 hl (by decide) rfl (fun ls hl => ?_)
              refine lv_iload (pc := 92) hx hb dX4_wornAmiss_92 (lv_at hl 0 rfl) ?_
              refine zr_if_eq (pc := 94) (tgt := 100) hx hb dX4_wornAmiss_94 (by decide) (by decide) (fun _ => ?_) (fun z => absurd z (by decide))
              refine zr_iinc (pc := 100) (d := ((j : Int)) + 1) (lv' := [(4, .int (zI (((j : Int)) + 1))), (6, .int (zI (0))), (5, .int (zI (gW g ((i : Int)) ((j : Int))))), (0, .ref (ad 0)), (1, .int (zI (k))), (3, .int (zI ((i : Int)))), (2, .int (zI (y)))]) hx hb dX4_wornAmiss_100 hl (k := 6) rfl rfl (by decide) rfl (fun ls hl => ?_)
              refine lv_goto (pc := 103) (tgt := 13) hx hb dX4_wornAmiss_103 (by decide) ?_
              exact ih_13 (j + 1) (y) (⟨by omega, by first | exact sm_no h_y (fun q => q.1 c_40) | exact sm_yes h_y ⟨c_40, Or.inl ⟨c_48, c_59⟩⟩ | exact sm_yes h_y ⟨c_40, Or.inr (Or.inl ⟨c_72, hb_78⟩)⟩ | exact sm_yes h_y ⟨c_40, Or.inr (Or.inr ⟨by omega, hb_87⟩)⟩ | exact sm_no h_y (fun q => q.2.elim (fun z => by have := z.2; omega) (fun z => z.elim (fun z => by omega) (fun z => by omega))) | exact sm_no h_y (fun q => q.2.elim (fun z => c_48 z.1) (fun z => z.elim (fun z => hb_78 z.2) (fun z => by omega))) | exact sm_no h_y (fun q => q.2.elim (fun z => c_48 z.1) (fun z => z.elim (fun z => c_72 z.1) (fun z => hb_87 z.2)))⟩) (by omega) ls (lv_sub hl [3, 4, 5, 6, 0] rfl)
        · refine lv_aload_n (pc := 51) hx hb dX4_wornAmiss_51 rfl (lv_at hl 1 rfl) ?_
          refine lv_iload (pc := 52) hx hb dX4_wornAmiss_52 (lv_at hl 0 rfl) ?_
          refine lv_iload (pc := 54) hx hb dX4_wornAmiss_54 (lv_at hl 5 rfl) ?_
          refine zr_vi (pc := 56) (As := [.int (zI (gW g ((i : Int)) ((j : Int)))), .int (zI ((j : Int)))]) (rest := []) S (ct_X4_misfitOf l D cI cT ad σ g hR hI (gW g ((i : Int)) ((j : Int))) ((j : Int)) (by omega) (by omega) (by omega) (by omega)) (cwV 2 hts gX4_wornAmiss_X4_misfitOf rfl rfl rfl (by decide +kernel) ⟨Nat.le_of_ble_eq_true rfl, Nat.le_of_ble_eq_true rfl⟩) zs0 hK hP (zr_recv hK (hP 0 (by decide)) rfl) rfl hl.1 rfl (Nat.le_of_ble_eq_true rfl) dX4_wornAmiss_56 ⟨Nat.le_of_ble_eq_true rfl, Nat.le_of_ble_eq_true rfl⟩ (fun r_56 hr_56 => ?_)
          subst hr_56
          have hm_56 := mis_bd hI (c := (gW g ((i : Int)) ((j : Int)))) (a := ((j : Int))) (by omega) (by omega) (by omega) (by omega)
          refine zr_if_le (pc := 59) (tgt := 66) hx hb dX4_wornAmiss_59 (by decide) (by omega) (fun c_59 => ?_) (fun c_59 => ?_)
          · refine lv_iconst (pc := 66) (v := zI 0) hx hb dX4_wornAmiss_66 rfl ?_
            refine lv_goto (pc := 67) (tgt := 90) hx hb dX4_wornAmiss_67 (by decide) ?_
            refine lv_istore (pc := 90) (lv' := [(6, .int (zI (0))), (5, .int (zI (gW g ((i : Int)) ((j : Int))))), (0, .ref (ad 0)), (1, .int (zI (k))), (3, .int (zI ((i : Int)))), (2, .int (zI (y))), (4, .int (zI ((j : Int))))]) hx hb dX4_wornAmiss_90 hl (by decide) rfl (fun ls hl => ?_)
            refine lv_iload (pc := 92) hx hb dX4_wornAmiss_92 (lv_at hl 0 rfl) ?_
            refine zr_if_eq (pc := 94) (tgt := 100) hx hb dX4_wornAmiss_94 (by decide) (by decide) (fun _ => ?_) (fun z => absurd z (by decide))
            refine zr_iinc (pc := 100) (d := ((j : Int)) + 1) (lv' := [(4, .int (zI (((j : Int)) + 1))), (6, .int (zI (0))), (5, .int (zI (gW g ((i : Int)) ((j : Int))))), (0, .ref (ad 0)), (1, .int (zI (k))), (3, .int (zI ((i : Int)))), (2, .int (zI (y)))]) hx hb dX4_wornAmiss_100 hl (k := 6) rfl rfl (by decide) rfl (fun ls hl => ?_)
            refine lv_goto (pc := 103) (tgt := 13) hx hb dX4_wornAmiss_103 (by decide) ?_
            exact ih_13 (j + 1) (y) (⟨by omega, by first | exact sm_no h_y (fun q => q.1 c_40) | exact sm_yes h_y ⟨c_40, Or.inl ⟨c_48, c_59⟩⟩ | exact sm_yes h_y ⟨c_40, Or.inr (Or.inl ⟨c_72, hb_78⟩)⟩ | exact sm_yes h_y ⟨c_40, Or.inr (Or.inr ⟨by omega, hb_87⟩)⟩ | exact sm_no h_y (fun q => q.2.elim (fun z => by have := z.2; omega) (fun z => z.elim (fun z => by omega) (fun z => by omega))) | exact sm_no h_y (fun q => q.2.elim (fun z => c_48 z.1) (fun z => z.elim (fun z => hb_78 z.2) (fun z => by omega))) | exact sm_no h_y (fun q => q.2.elim (fun z => c_48 z.1) (fun z => z.elim (fun z => c_72 z.1) (fun z => hb_87 z.2)))⟩) (by omega) ls (lv_sub hl [3, 4, 5, 6, 0] rfl)
          · refine lv_iconst (pc := 62) (v := zI 1) hx hb dX4_wornAmiss_62 rfl ?_
            refine lv_goto (pc := 63) (tgt := 90) hx hb dX4_wornAmiss_63 (by decide) ?_
            refine lv_istore (pc := 90) (lv' := [(6, .int (zI (1))), (5, .int (zI (gW g ((i : Int)) ((j : Int))))), (0, .ref (ad 0)), (1, .int (zI (k))), (3, .int (zI ((i : Int)))), (2, .int (zI (y))), (4, .int (zI ((j : Int))))]) hx hb dX4_wornAmiss_90 hl (by decide) rfl (fun ls hl => ?_)
            refine lv_iload (pc := 92) hx hb dX4_wornAmiss_92 (lv_at hl 0 rfl) ?_
            refine zr_if_eq (pc := 94) (tgt := 100) hx hb dX4_wornAmiss_94 (by decide) (by decide) (fun z => absurd z (by decide)) (fun _ => ?_)
            refine zr_iinc (pc := 97) (d := y + 1) (lv' := [(2, .int (zI (y + 1))), (6, .int (zI (1))), (5, .int (zI (gW g ((i : Int)) ((j : Int))))), (0, .ref (ad 0)), (1, .int (zI (k))), (3, .int (zI ((i : Int)))), (4, .int (zI ((j : Int))))]) hx hb dX4_wornAmiss_97 hl (k := 5) rfl rfl (by decide) rfl (fun ls hl => ?_)
            refine zr_iinc (pc := 100) (d := ((j : Int)) + 1) (lv' := [(4, .int (zI (((j : Int)) + 1))), (2, .int (zI (y + 1))), (6, .int (zI (1))), (5, .int (zI (gW g ((i : Int)) ((j : Int))))), (0, .ref (ad 0)), (1, .int (zI (k))), (3, .int (zI ((i : Int))))]) hx hb dX4_wornAmiss_100 hl (k := 6) rfl rfl (by decide) rfl (fun ls hl => ?_)
            refine lv_goto (pc := 103) (tgt := 13) hx hb dX4_wornAmiss_103 (by decide) ?_
            exact ih_13 (j + 1) ((y + 1)) (⟨by omega, by first | exact sm_no h_y (fun q => q.1 c_40) | exact sm_yes h_y ⟨c_40, Or.inl ⟨c_48, c_59⟩⟩ | exact sm_yes h_y ⟨c_40, Or.inr (Or.inl ⟨c_72, hb_78⟩)⟩ | exact sm_yes h_y ⟨c_40, Or.inr (Or.inr ⟨by omega, hb_87⟩)⟩ | exact sm_no h_y (fun q => q.2.elim (fun z => by have := z.2; omega) (fun z => z.elim (fun z => by omega) (fun z => by omega))) | exact sm_no h_y (fun q => q.2.elim (fun z => c_48 z.1) (fun z => z.elim (fun z => hb_78 z.2) (fun z => by omega))) | exact sm_no h_y (fun q => q.2.elim (fun z => c_48 z.1) (fun z => z.elim (fun z => c_72 z.1) (fun z => hb_87 z.2)))⟩) (by omega) ls (lv_sub hl [4, 5, 6, 1, 0] rfl)
      · refine lv_goto (pc := 43) (tgt := 100) hx hb dX4_wornAmiss_43 (by decide) ?_
        refine zr_iinc (pc := 100) (d := ((j : Int)) + 1) (lv' := [(4, .int (zI (((j : Int)) + 1))), (5, .int (zI (gW g ((i : Int)) ((j : Int))))), (0, .ref (ad 0)), (1, .int (zI (k))), (3, .int (zI ((i : Int)))), (2, .int (zI (y)))]) hx hb dX4_wornAmiss_100 hl (k := 5) rfl rfl (by decide) rfl (fun ls hl => ?_)
        refine lv_goto (pc := 103) (tgt := 13) hx hb dX4_wornAmiss_103 (by decide) ?_
        exact ih_13 (j + 1) (y) (⟨by omega, by first | exact sm_no h_y (fun q => q.1 c_40) | exact sm_yes h_y ⟨c_40, Or.inl ⟨c_48, c_59⟩⟩ | exact sm_yes h_y ⟨c_40, Or.inr (Or.inl ⟨c_72, hb_78⟩)⟩ | exact sm_yes h_y ⟨c_40, Or.inr (Or.inr ⟨by omega, hb_87⟩)⟩ | exact sm_no h_y (fun q => q.2.elim (fun z => by have := z.2; omega) (fun z => z.elim (fun z => by omega) (fun z => by omega))) | exact sm_no h_y (fun q => q.2.elim (fun z => c_48 z.1) (fun z => z.elim (fun z => hb_78 z.2) (fun z => by omega))) | exact sm_no h_y (fun q => q.2.elim (fun z => c_48 z.1) (fun z => z.elim (fun z => c_72 z.1) (fun z => hb_87 z.2)))⟩) (by omega) ls (lv_sub hl [2, 3, 4, 5, 0] rfl)
set_option maxHeartbeats 4000000 in
set_option maxRecDepth 100000 in
theorem ct_X4_problemsOf (l : Launch) (D : va_G) (cI cT : ClassId) (ad : Nat → Nat) (σ : Nat → Int → Int) (g : Int → Int) (hR : Rel σ g) (hI : Inv g) (k : Int) (k0 : 0 ≤ k) (k1 : k ≤ 4) : zMr l yX4_problemsOf wsX4_problemsOf ({ frames := 6, cells := 0, slots := 0, locals := 145 }) D cI cT [.ref (ad 0), .int (zI (k))] (fun _ H => zW D ad 20 (sC cI ad σ) H) (fun r => r = zI (prb g k)) := by
  refine Met.ofW (cc := cX4_problemsOf) (maxL := 2) (ret := (some .int)) (by decide) rfl ?_
  intro p_ e_ s m_ args below meth c_ s₁ B hml hv
  obtain ⟨rfl, hK, hF⟩ := hv
  have hx := B.exec
  have hb := B.bytes
  have hr := B.returns
  have hts := atoms_spec (ws := wsX4_problemsOf) B.pre
  have hown : s.vm.findClass RX4 = some m_.cls := findClass_of_methodNamed B.named
  have hlocks := B.notSynchronized
  have S : CallFix p_ m_ c_ cX4_problemsOf 2 s _ wsX4_problemsOf RX4 := ⟨hx, hb, hml, hown, hts⟩
  have hP := hF
  have hnC := iv_nC hI
  have hnA := iv_nA hI
  have hl := lv_entry ([.ref (ad 0), .int (zI (k))]) (n := 2) (Nat.le_of_ble_eq_true rfl)
  rw [lg_entry_eq]
  generalize (lg_sl ([.ref (ad 0), .int (zI (k))]) ++ List.replicate (2 - (lg_sl ([.ref (ad 0), .int (zI (k))])).length) Slot.unset).toArray = ls at hl ⊢
  have hl : lv_has ls 2 [(0, .ref (ad 0)), (1, .int (zI (k)))] := hl
  refine lv_iload_n (pc := 0) hx hb dX4_problemsOf_0 rfl (lv_at hl 1 rfl) ?_
  have rg_1 : -2147483648 ≤ k ∧ k ≤ 2147483647 := (by omega)
  by_cases c_1 : k = 0
  · refine zr_lookup (pc := 1) (tgt := 28) (off := 27) hx hb dX4_problemsOf_1 (by rfl) (by rw [zi_toInt rg_1, c_1]; rfl) (by decide) ?_
    refine lv_aload_n (pc := 28) hx hb dX4_problemsOf_28 rfl (lv_at hl 0 rfl) ?_
    refine zr_vi (pc := 29) (As := []) (rest := []) S (ct_X4_wornTwice l D cI cT ad σ g hR hI  ) (cwV 0 hts gX4_problemsOf_X4_wornTwice rfl rfl rfl (by decide +kernel) ⟨Nat.le_of_ble_eq_true rfl, Nat.le_of_ble_eq_true rfl⟩) zs0 hK hP (zr_recv hK (hP 0 (by decide)) rfl) rfl hl.1 rfl (Nat.le_of_ble_eq_true rfl) dX4_problemsOf_29 ⟨Nat.le_of_ble_eq_true rfl, Nat.le_of_ble_eq_true rfl⟩ (fun r_29 hr_29 => ?_)
    subst hr_29
    exact W.iret (v := zI (pb0 g)) hx hb hr (fun tz ht hW => ⟨_, rfl, congrArg zI (prb_0 c_1).symm, ht⟩) (fun _ h => by cases h) dX4_problemsOf_32
  have n0_1 := c_1
  by_cases c_1 : k = 1
  · refine zr_lookup (pc := 1) (tgt := 33) (off := 32) hx hb dX4_problemsOf_1 (by rfl) (by rw [zi_toInt rg_1, c_1]; rfl) (by decide) ?_
    refine lv_aload_n (pc := 33) hx hb dX4_problemsOf_33 rfl (lv_at hl 0 rfl) ?_
    refine zr_vi (pc := 34) (As := []) (rest := []) S (ct_X4_handedOver l D cI cT ad σ g hR hI  ) (cwV 0 hts gX4_problemsOf_X4_handedOver rfl rfl rfl (by decide +kernel) ⟨Nat.le_of_ble_eq_true rfl, Nat.le_of_ble_eq_true rfl⟩) zs0 hK hP (zr_recv hK (hP 0 (by decide)) rfl) rfl hl.1 rfl (Nat.le_of_ble_eq_true rfl) dX4_problemsOf_34 ⟨Nat.le_of_ble_eq_true rfl, Nat.le_of_ble_eq_true rfl⟩ (fun r_34 hr_34 => ?_)
    subst hr_34
    exact W.iret (v := zI (pb1 g)) hx hb hr (fun tz ht hW => ⟨_, rfl, congrArg zI (prb_1 c_1).symm, ht⟩) (fun _ h => by cases h) dX4_problemsOf_37
  have n1_1 := c_1
  refine zr_lookup (pc := 1) (tgt := 38) (off := 37) hx hb dX4_problemsOf_1 (by rfl) ((lv_osw (k := zI 0) (fun q => n0_1 ((zi_eq rg_1 (by decide)).mp q)) (by decide)).trans ((lv_osw (k := zI 1) (fun q => n1_1 ((zi_eq rg_1 (by decide)).mp q)) (by decide)).trans rfl)) (by decide) ?_
  refine lv_aload_n (pc := 38) hx hb dX4_problemsOf_38 rfl (lv_at hl 0 rfl) ?_
  refine lv_iload_n (pc := 39) hx hb dX4_problemsOf_39 rfl (lv_at hl 1 rfl) ?_
  refine zr_vi (pc := 40) (As := [.int (zI (k))]) (rest := []) S (ct_X4_wornAmiss l D cI cT ad σ g hR hI k (by omega) (by omega)) (cwV 1 hts gX4_problemsOf_X4_wornAmiss rfl rfl rfl (by decide +kernel) ⟨Nat.le_of_ble_eq_true rfl, Nat.le_of_ble_eq_true rfl⟩) zs0 hK hP (zr_recv hK (hP 0 (by decide)) rfl) rfl hl.1 rfl (Nat.le_of_ble_eq_true rfl) dX4_problemsOf_40 ⟨Nat.le_of_ble_eq_true rfl, Nat.le_of_ble_eq_true rfl⟩ (fun r_40 hr_40 => ?_)
  subst hr_40
  exact W.iret (v := zI (pb2 g k)) hx hb hr (fun tz ht hW => ⟨_, rfl, congrArg zI (prb_2 n0_1 n1_1).symm, ht⟩) (fun _ h => by cases h) dX4_problemsOf_43
set_option maxHeartbeats 4000000 in
set_option maxRecDepth 100000 in
theorem ct_X4_allowsLoad (l : Launch) (D : va_G) (cI cT : ClassId) (bs : Nat) (ad : Nat → Nat) (σ : Nat → Int → Int) (g : Int → Int) (hR : Rel σ g) (hI : Inv g) (p : Int) (ld : Int) (p0 : 0 ≤ p) (p1 : p ≤ 3) (l0 : 1 ≤ ld) (l1 : ld < pw (g 0)) : zMr l yX4_allowsLoad wsX4_allowsLoad ({ frames := 4, cells := 0, slots := 0, locals := 87 }) D cI cT [.ref (ad 0), .int (zI (p)), .int (zI (ld))] (fun U H => zW D ad 20 (sC cI ad σ) H ∧ zT bs U H) (fun r => bz (ldP g p ld) r) := by
  refine Met.ofW (cc := cX4_allowsLoad) (maxL := 5) (ret := (some .boolean)) (by decide) rfl ?_
  intro p_ e_ s m_ args below meth c_ s₁ B hml hv
  obtain ⟨rfl, hK, hF⟩ := hv
  have hx := B.exec
  have hb := B.bytes
  have hr := B.returns
  have hts := atoms_spec (ws := wsX4_allowsLoad) B.pre
  have hown : s.vm.findClass RX4 = some m_.cls := findClass_of_methodNamed B.named
  have hlocks := B.notSynchronized
  have S : CallFix p_ m_ c_ cX4_allowsLoad 5 s _ wsX4_allowsLoad RX4 := ⟨hx, hb, hml, hown, hts⟩
  have i_X4 : ∀ w ∈ u_ws RX4 TX4 9, w ∈ wsX4_allowsLoad := fun _ h => List.mem_cons_of_mem _ (List.mem_append_left _ (List.mem_append_left _ (List.mem_append_right _ h)))
  have i_X6 : ∀ w ∈ u_ws RX6 TX6 9, w ∈ wsX4_allowsLoad := fun _ h => List.mem_cons_of_mem _ (List.mem_append_left _ (List.mem_append_right _ h))
  have hP := hF.1
  have hT := hF.2
  have hnC := iv_nC hI
  have hpw := pw16 (n := g 0) (by omega) (by omega)
  have htr : cnb ld 16 = cnb ld (g 0).toNat := cnb_trim (i := (g 0).toNat) (by omega) (by rw [show (((g 0).toNat : Nat) : Int) = g 0 by omega]; omega) (by omega)
  have hcn := cnb_bd ld 16
  have hl := lv_entry ([.ref (ad 0), .int (zI (p)), .int (zI (ld))]) (n := 5) (Nat.le_of_ble_eq_true rfl)
  rw [lg_entry_eq]
  generalize (lg_sl ([.ref (ad 0), .int (zI (p)), .int (zI (ld))]) ++ List.replicate (5 - (lg_sl ([.ref (ad 0), .int (zI (p)), .int (zI (ld))])).length) Slot.unset).toArray = ls at hl ⊢
  have hl : lv_has ls 5 [(0, .ref (ad 0)), (1, .int (zI (p))), (2, .int (zI (ld)))] := hl
  refine lv_iload_n (pc := 0) hx hb dX4_allowsLoad_0 rfl (lv_at hl 2 rfl) ?_
  refine zr_si (pc := 1) (As := [.int (zI (ld))]) (rest := []) S (ct_J6_bitCount_0f7a4 l D cI cT ld (by omega) (by omega)) (va_cwS 1 hts gX4_allowsLoad_J6_bitCount_0f7a4 rfl rfl rfl (by decide +kernel) ⟨Nat.le_of_ble_eq_true rfl, Nat.le_of_ble_eq_true rfl⟩) zs0 hK trivial rfl hl.1 rfl (Nat.le_of_ble_eq_true rfl) dX4_allowsLoad_1 ⟨Nat.le_of_ble_eq_true rfl, Nat.le_of_ble_eq_true rfl⟩ (fun r_1 hr_1 => ?_)
  subst hr_1
  refine lv_iconst (pc := 4) (v := zI 5) hx hb dX4_allowsLoad_4 rfl ?_
  refine zr_icmp_le (pc := 5) (tgt := 10) hx hb dX4_allowsLoad_5 (by decide) (by omega) (by decide) (fun c_5 => ?_) (fun c_5 => ?_)
  · refine lv_iconst (pc := 10) (v := zI 0) hx hb dX4_allowsLoad_10 rfl ?_
    refine lv_istore_n (pc := 11) (lv' := [(3, .int (zI (0))), (0, .ref (ad 0)), (1, .int (zI (p))), (2, .int (zI (ld)))]) hx hb dX4_allowsLoad_11 rfl hl (by decide) rfl (fun ls hl => ?_)
    refine lv_iconst (pc := 12) (v := zI 0) hx hb dX4_allowsLoad_12 rfl ?_
    refine lv_istore (pc := 13) (lv' := [(4, .int (zI (0))), (3, .int (zI (0))), (0, .ref (ad 0)), (1, .int (zI (p))), (2, .int (zI (ld)))]) hx hb dX4_allowsLoad_13 hl (by decide) rfl (fun ls hl => ?_)
    refine zr_loop2 (fun (i : Nat) (x : Int) => ((i : Int) ≤ g 0) ∧ (x = colS g ld i) ∧ (∀ b : Int, 0 ≤ b → b < (i : Int) → bit ld b → ¬ awy g b (g 3) 1 ∧ cwP (gC g b 4) p)) (fun (i : Nat) (x : Int) => (g 0 : Int).toNat - i) (fun (i : Nat) (x : Int) => [(0, .ref (ad 0)), (1, .int (zI (p))), (2, .int (zI (ld))), (3, .int (zI (x))), (4, .int (zI ((i : Int))))]) ?_ (0) (0) (⟨by omega, by rw [colS_0], fa_0⟩) (lv_sub hl [2, 3, 4, 1, 0] rfl)
    intro i x hinv ih_15 ls hl
    obtain ⟨h_i, h_x, h_n⟩ := hinv
    have hcb : 0 ≤ x ∧ x ≤ 3 := by rw [h_x]; exact colS_bd g ld i
    refine lv_iload (pc := 15) hx hb dX4_allowsLoad_15 (lv_at hl 4 rfl) ?_
    refine lv_aload_n (pc := 17) hx hb dX4_allowsLoad_17 rfl (lv_at hl 0 rfl) ?_
    refine zr_get (pc := 18) S hK (hP 0 (by decide)) rfl i_X4 0 (by decide) (List.mem_of_getElem? (i := 1) rfl) rfl dX4_allowsLoad_18 ?_
    refine zr_get (pc := 21) S hK (hP 1 (by decide)) rfl i_X6 0 (by decide) (List.mem_of_getElem? (i := 2) rfl) rfl dX4_allowsLoad_21 ?_
    refine zr_top (b := g 0) (rl_nC hR) ?_
    refine zr_icmp_ge (pc := 24) (tgt := 86) hx hb dX4_allowsLoad_24 (by decide) (by omega) (by omega) (fun c_24 => ?_) (fun c_24 => ?_)
    · have hx3 : x = colS g ld (g 0) := by rw [h_x, show (i : Int) = g 0 by omega]
      refine lv_iload_n (pc := 86) hx hb dX4_allowsLoad_86 rfl (lv_at hl 1 rfl) ?_
      refine lv_iconst (pc := 87) (v := zI 3) hx hb dX4_allowsLoad_87 rfl ?_
      refine zr_icmp_eq (pc := 88) (tgt := 99) hx hb dX4_allowsLoad_88 (by decide) (by omega) (by decide) (fun c_88 => ?_) (fun c_88 => ?_)
      · refine lv_iconst (pc := 99) (v := zI 1) hx hb dX4_allowsLoad_99 rfl ?_
        refine lv_goto (pc := 100) (tgt := 104) hx hb dX4_allowsLoad_100 (by decide) ?_
        exact W.zret (ty := .boolean) (v := zI (1)) hx hb hr (by first | rfl | decide) (fun tz ht hW => ⟨_, rfl, bz_t ⟨fun b b0 b1 => h_n b b0 (by omega), by rw [← htr]; omega, by first | exact Or.inl c_88 | exact Or.inr (fun q => ((cnb_col hcb.1 hcb.2).1.mp c_96) (hx3.trans ((colS_3 g ld (g 0)).mpr q)))⟩, ht⟩) (fun _ h => by cases h) dX4_allowsLoad_104
      · have hc2 := (cnb_col hcb.1 hcb.2).2
        refine lv_iload_n (pc := 91) hx hb dX4_allowsLoad_91 rfl (lv_at hl 3 rfl) ?_
        refine zr_si (pc := 92) (As := [.int (zI (x))]) (rest := []) S (ct_J6_bitCount_0f7a4 l D cI cT x (by omega) (by omega)) (va_cwS 1 hts gX4_allowsLoad_J6_bitCount_0f7a4 rfl rfl rfl (by decide +kernel) ⟨Nat.le_of_ble_eq_true rfl, Nat.le_of_ble_eq_true rfl⟩) zs0 hK trivial rfl hl.1 rfl (Nat.le_of_ble_eq_true rfl) dX4_allowsLoad_92 ⟨Nat.le_of_ble_eq_true rfl, Nat.le_of_ble_eq_true rfl⟩ (fun r_92 hr_92 => ?_)
        subst hr_92
        refine lv_iconst (pc := 95) (v := zI 1) hx hb dX4_allowsLoad_95 rfl ?_
        refine zr_icmp_gt (pc := 96) (tgt := 103) hx hb dX4_allowsLoad_96 (by decide) (by omega) (by decide) (fun c_96 => ?_) (fun c_96 => ?_)
        · refine lv_iconst (pc := 103) (v := zI 0) hx hb dX4_allowsLoad_103 rfl ?_
          exact W.zret (ty := .boolean) (v := zI (0)) hx hb hr (by first | rfl | decide) (fun tz ht hW => ⟨_, rfl, bz_f (fun q => q.2.2.elim c_88 (fun z => z ((colS_3 g ld (g 0)).mp (hx3.symm.trans (by have := (cnb_col hcb.1 hcb.2).1; omega))))), ht⟩) (fun _ h => by cases h) dX4_allowsLoad_104
        · refine lv_iconst (pc := 99) (v := zI 1) hx hb dX4_allowsLoad_99 rfl ?_
          refine lv_goto (pc := 100) (tgt := 104) hx hb dX4_allowsLoad_100 (by decide) ?_
          exact W.zret (ty := .boolean) (v := zI (1)) hx hb hr (by first | rfl | decide) (fun tz ht hW => ⟨_, rfl, bz_t ⟨fun b b0 b1 => h_n b b0 (by omega), by rw [← htr]; omega, by first | exact Or.inl c_88 | exact Or.inr (fun q => ((cnb_col hcb.1 hcb.2).1.mp c_96) (hx3.trans ((colS_3 g ld (g 0)).mpr q)))⟩, ht⟩) (fun _ h => by cases h) dX4_allowsLoad_104
    · refine lv_iload_n (pc := 27) hx hb dX4_allowsLoad_27 rfl (lv_at hl 2 rfl) ?_
      refine lv_iload (pc := 28) hx hb dX4_allowsLoad_28 (lv_at hl 4 rfl) ?_
      refine zr_ni (pc := 30) (As := [.int (zI (ld)), .int (zI ((i : Int)))]) (rest := []) S (ct_X7_isIn l D cI cT ld ((i : Int)) (by omega) (by omega) (by omega) (by omega)) (va_cnB 2 hts gX4_allowsLoad_X7_isIn_n161 rfl rfl rfl (zK_nest hK 21 rfl) (hts _ (List.mem_of_getElem? (i := 12) rfl)) (by decide +kernel) ⟨Nat.le_of_ble_eq_true rfl, Nat.le_of_ble_eq_true rfl⟩) (hts _ (List.mem_of_getElem? (i := 11) rfl)) zs0 hK trivial rfl hl.1 rfl (Nat.le_of_ble_eq_true rfl) dX4_allowsLoad_30 ⟨Nat.le_of_ble_eq_true rfl, Nat.le_of_ble_eq_true rfl⟩ (fun r_30 hr_30 => ?_)
      rcases hr_30 with ⟨hb_30, rfl⟩ | ⟨hb_30, rfl⟩
      · refine zr_if_ne (pc := 33) (tgt := 39) hx hb dX4_allowsLoad_33 (by decide) (by decide) (fun _ => ?_) (fun z => absurd z (by decide))
        refine lv_aload_n (pc := 39) hx hb dX4_allowsLoad_39 rfl (lv_at hl 0 rfl) ?_
        refine lv_iload (pc := 40) hx hb dX4_allowsLoad_40 (lv_at hl 4 rfl) ?_
        refine zr_vi (pc := 42) (As := [.int (zI ((i : Int)))]) (rest := []) S (ct_X4_isAway l D cI cT ad σ g hR hI ((i : Int)) (by omega) (by omega)) (cwV 1 hts gX4_allowsLoad_X4_isAway rfl rfl rfl (by decide +kernel) ⟨Nat.le_of_ble_eq_true rfl, Nat.le_of_ble_eq_true rfl⟩) zs0 hK hP (zr_recv hK (hP 0 (by decide)) rfl) rfl hl.1 rfl (Nat.le_of_ble_eq_true rfl) dX4_allowsLoad_42 ⟨Nat.le_of_ble_eq_true rfl, Nat.le_of_ble_eq_true rfl⟩ (fun r_42 hr_42 => ?_)
        rcases hr_42 with ⟨hb_42, rfl⟩ | ⟨hb_42, rfl⟩
        · refine zr_if_ne (pc := 45) (tgt := 61) hx hb dX4_allowsLoad_45 (by decide) (by decide) (fun _ => ?_) (fun z => absurd z (by decide))
          refine lv_iconst (pc := 61) (v := zI 0) hx hb dX4_allowsLoad_61 rfl ?_
          exact W.zret (ty := .boolean) (v := zI (0)) hx hb hr (by first | rfl | decide) (fun tz ht hW => ⟨_, rfl, bz_f (fun q => by have q2 := q.1 i (by omega) (by omega) hb_30; first | exact q2.1 hb_42 | exact hb_55 q2.2), ht⟩) (fun _ h => by cases h) dX4_allowsLoad_62
        · refine zr_if_ne (pc := 45) (tgt := 61) hx hb dX4_allowsLoad_45 (by decide) (by decide) (fun z => absurd z (by decide)) (fun _ => ?_)
          refine lv_aload_n (pc := 48) hx hb dX4_allowsLoad_48 rfl (lv_at hl 0 rfl) ?_
          refine zr_get (pc := 49) S hK (hP 0 (by decide)) rfl i_X4 0 (by decide) (List.mem_of_getElem? (i := 1) rfl) rfl dX4_allowsLoad_49 ?_
          refine lv_iload (pc := 52) hx hb dX4_allowsLoad_52 (lv_at hl 4 rfl) ?_
          refine lv_iload_n (pc := 54) hx hb dX4_allowsLoad_54 rfl (lv_at hl 1 rfl) ?_
          refine zr_vi (pc := 55) (As := [.int (zI ((i : Int))), .int (zI (p))]) (rest := []) S (ct_X6_canBeWashed l D cI cT bs ad σ g hR hI ((i : Int)) p (by omega) (by omega) (by omega) (by omega)) (cwV 2 hts gX4_allowsLoad_X6_canBeWashed rfl rfl rfl (by decide +kernel) ⟨Nat.le_of_ble_eq_true rfl, Nat.le_of_ble_eq_true rfl⟩) zs_T hK ⟨hP, hT⟩ (zr_recv hK (hP 1 (by decide)) rfl) rfl hl.1 rfl (Nat.le_of_ble_eq_true rfl) dX4_allowsLoad_55 ⟨Nat.le_of_ble_eq_true rfl, Nat.le_of_ble_eq_true rfl⟩ (fun r_55 hr_55 => ?_)
          rcases hr_55 with ⟨hb_55, rfl⟩ | ⟨hb_55, rfl⟩
          · refine zr_if_ne (pc := 58) (tgt := 63) hx hb dX4_allowsLoad_58 (by decide) (by decide) (fun _ => ?_) (fun z => absurd z (by decide))
            have hcl := iv_cl hI (c := (i : Int)) (by omega) (by omega)
            refine lv_iload_n (pc := 63) hx hb dX4_allowsLoad_63 rfl (lv_at hl 3 rfl) ?_
            refine lv_iconst (pc := 64) (v := zI 1) hx hb dX4_allowsLoad_64 rfl ?_
            refine lv_aload_n (pc := 65) hx hb dX4_allowsLoad_65 rfl (lv_at hl 0 rfl) ?_
            refine zr_get (pc := 66) S hK (hP 0 (by decide)) rfl i_X4 0 (by decide) (List.mem_of_getElem? (i := 1) rfl) rfl dX4_allowsLoad_66 ?_
            refine zr_get (pc := 69) S hK (hP 1 (by decide)) rfl i_X6 4 (by decide) (List.mem_of_getElem? (i := 3) rfl) rfl dX4_allowsLoad_69 ?_
            refine lv_iload (pc := 72) hx hb dX4_allowsLoad_72 (lv_at hl 4 rfl) ?_
            refine zr_ni (pc := 74) (As := [.ref (ad 8), .int (zI ((i : Int)))]) (rest := [.int (zI (1)), .int (zI (x))]) S (ct_X7_at l D cI cT (ad 8) 16 _ ((i : Int)) (gC g i 5) (by decide) (by omega) (by omega) (rl_cl hR (by omega) (by omega)) (by omega)) (va_cnB 2 hts gX4_allowsLoad_X7_at_n80 rfl rfl rfl (zK_nest hK 19 rfl) (hts _ (List.mem_of_getElem? (i := 12) rfl)) (by decide +kernel) ⟨Nat.le_of_ble_eq_true rfl, Nat.le_of_ble_eq_true rfl⟩) (hts _ (List.mem_of_getElem? (i := 29) rfl)) zs_ar hK (zAr_of (zK_int hK) (hP 8 (by decide))) rfl hl.1 rfl (Nat.le_of_ble_eq_true rfl) dX4_allowsLoad_74 ⟨Nat.le_of_ble_eq_true rfl, Nat.le_of_ble_eq_true rfl⟩ (fun r_74 hr_74 => ?_)
            subst hr_74
            refine zr_ishl (pc := 77) (d := pw (gC g i 5)) hx hb dX4_allowsLoad_77 (zi_pw (by omega) (by omega)) ?_
            refine zr_ior (pc := 78) (d := orc x (gC g i 5)) hx hb dX4_allowsLoad_78 (zi_orc hcb.1 hcb.2 hcl.1 hcl.2) ?_
            refine lv_istore_n (pc := 79) (lv' := [(3, .int (zI (orc x (gC g i 5)))), (0, .ref (ad 0)), (1, .int (zI (p))), (2, .int (zI (ld))), (4, .int (zI ((i : Int))))]) hx hb dX4_allowsLoad_79 rfl hl (by decide) rfl (fun ls hl => ?_)
            refine zr_iinc (pc := 80) (d := ((i : Int)) + 1) (lv' := [(4, .int (zI (((i : Int)) + 1))), (3, .int (zI (orc x (gC g i 5)))), (0, .ref (ad 0)), (1, .int (zI (p))), (2, .int (zI (ld)))]) hx hb dX4_allowsLoad_80 hl (k := 4) rfl rfl (by decide) rfl (fun ls hl => ?_)
            refine lv_goto (pc := 83) (tgt := 15) hx hb dX4_allowsLoad_83 (by decide) ?_
            exact ih_15 (i + 1) ((orc x (gC g i 5))) (⟨by omega, by first | (rw [colS_n hb_30]; exact h_x) | (rw [colS_y hb_30 hcl, h_x]), fa_s h_n (fun q => by first | exact absurd q hb_30 | exact ⟨hb_42, hb_55⟩)⟩) (by omega) ls (lv_sub hl [2, 3, 4, 1, 0] rfl)
          · refine zr_if_ne (pc := 58) (tgt := 63) hx hb dX4_allowsLoad_58 (by decide) (by decide) (fun z => absurd z (by decide)) (fun _ => ?_)
            refine lv_iconst (pc := 61) (v := zI 0) hx hb dX4_allowsLoad_61 rfl ?_
            exact W.zret (ty := .boolean) (v := zI (0)) hx hb hr (by first | rfl | decide) (fun tz ht hW => ⟨_, rfl, bz_f (fun q => by have q2 := q.1 i (by omega) (by omega) hb_30; first | exact q2.1 hb_42 | exact hb_55 q2.2), ht⟩) (fun _ h => by cases h) dX4_allowsLoad_62
      · refine zr_if_ne (pc := 33) (tgt := 39) hx hb dX4_allowsLoad_33 (by decide) (by decide) (fun z => absurd z (by decide)) (fun _ => ?_)
        refine lv_goto (pc := 36) (tgt := 80) hx hb dX4_allowsLoad_36 (by decide) ?_
        refine zr_iinc (pc := 80) (d := ((i : Int)) + 1) (lv' := [(4, .int (zI (((i : Int)) + 1))), (0, .ref (ad 0)), (1, .int (zI (p))), (2, .int (zI (ld))), (3, .int (zI (x)))]) hx hb dX4_allowsLoad_80 hl (k := 4) rfl rfl (by decide) rfl (fun ls hl => ?_)
        refine lv_goto (pc := 83) (tgt := 15) hx hb dX4_allowsLoad_83 (by decide) ?_
        exact ih_15 (i + 1) (x) (⟨by omega, by first | (rw [colS_n hb_30]; exact h_x) | (rw [colS_y hb_30 hcl, h_x]), fa_s h_n (fun q => by first | exact absurd q hb_30 | exact ⟨hb_42, hb_55⟩)⟩) (by omega) ls (lv_sub hl [1, 2, 3, 4, 0] rfl)
  · refine lv_iconst (pc := 8) (v := zI 0) hx hb dX4_allowsLoad_8 rfl ?_
    exact W.zret (ty := .boolean) (v := zI (0)) hx hb hr (by first | rfl | decide) (fun tz ht hW => ⟨_, rfl, bz_f (fun q => by have q2 := q.2.1; rw [htr] at c_5; omega), ht⟩) (fun _ h => by cases h) dX4_allowsLoad_9
set_option maxHeartbeats 4000000 in
set_option maxRecDepth 100000 in
theorem ct_X4_dirtySet (l : Launch) (D : va_G) (cI cT : ClassId) (bs : Nat) (ad : Nat → Nat) (σ : Nat → Int → Int) (g : Int → Int) (hR : Rel σ g) (hI : Inv g) (p : Int) (q : Int) (p0 : 0 ≤ p) (p1 : p ≤ 3) (q0 : 0 ≤ q) (q1 : q ≤ 1) : zMr l yX4_dirtySet wsX4_dirtySet ({ frames := 4, cells := 0, slots := 0, locals := 87 }) D cI cT [.ref (ad 0), .int (zI (p)), .int (zI (q))] (fun U H => zW D ad 20 (sC cI ad σ) H ∧ zT bs U H) (fun r => r = zI (dset g p q (g 0).toNat)) := by
  refine Met.ofW (cc := cX4_dirtySet) (maxL := 6) (ret := (some .int)) (by decide) rfl ?_
  intro p_ e_ s m_ args below meth c_ s₁ B hml hv
  obtain ⟨rfl, hK, hF⟩ := hv
  have hx := B.exec
  have hb := B.bytes
  have hr := B.returns
  have hts := atoms_spec (ws := wsX4_dirtySet) B.pre
  have hown : s.vm.findClass RX4 = some m_.cls := findClass_of_methodNamed B.named
  have hlocks := B.notSynchronized
  have S : CallFix p_ m_ c_ cX4_dirtySet 6 s _ wsX4_dirtySet RX4 := ⟨hx, hb, hml, hown, hts⟩
  have i_X4 : ∀ w ∈ u_ws RX4 TX4 9, w ∈ wsX4_dirtySet := fun _ h => List.mem_cons_of_mem _ (List.mem_append_left _ (List.mem_append_left _ (List.mem_append_right _ h)))
  have i_X6 : ∀ w ∈ u_ws RX6 TX6 9, w ∈ wsX4_dirtySet := fun _ h => List.mem_cons_of_mem _ (List.mem_append_left _ (List.mem_append_right _ h))
  have hP := hF.1
  have hT := hF.2
  have hnC := iv_nC hI
  have hl := lv_entry ([.ref (ad 0), .int (zI (p)), .int (zI (q))]) (n := 6) (Nat.le_of_ble_eq_true rfl)
  rw [lg_entry_eq]
  generalize (lg_sl ([.ref (ad 0), .int (zI (p)), .int (zI (q))]) ++ List.replicate (6 - (lg_sl ([.ref (ad 0), .int (zI (p)), .int (zI (q))])).length) Slot.unset).toArray = ls at hl ⊢
  have hl : lv_has ls 6 [(0, .ref (ad 0)), (1, .int (zI (p))), (2, .int (zI (q)))] := hl
  refine lv_iconst (pc := 0) (v := zI 0) hx hb dX4_dirtySet_0 rfl ?_
  refine lv_istore_n (pc := 1) (lv' := [(3, .int (zI (0))), (0, .ref (ad 0)), (1, .int (zI (p))), (2, .int (zI (q)))]) hx hb dX4_dirtySet_1 rfl hl (by decide) rfl (fun ls hl => ?_)
  refine lv_iconst (pc := 2) (v := zI 0) hx hb dX4_dirtySet_2 rfl ?_
  refine lv_istore (pc := 3) (lv' := [(4, .int (zI (0))), (3, .int (zI (0))), (0, .ref (ad 0)), (1, .int (zI (p))), (2, .int (zI (q)))]) hx hb dX4_dirtySet_3 hl (by decide) rfl (fun ls hl => ?_)
  refine zr_loop2 (fun (i : Nat) (x : Int) => ((i : Int) ≤ g 0) ∧ (x = dset g p q i)) (fun (i : Nat) (x : Int) => (g 0 : Int).toNat - i) (fun (i : Nat) (x : Int) => [(0, .ref (ad 0)), (1, .int (zI (p))), (2, .int (zI (q))), (3, .int (zI (x))), (4, .int (zI ((i : Int))))]) ?_ (0) (0) (⟨by omega, rfl⟩) (lv_sub hl [2, 3, 4, 1, 0] rfl)
  intro i x hinv ih_5 ls hl
  obtain ⟨h_i, h_x⟩ := hinv
  have hbd := dset_bd g p q i
  refine lv_iload (pc := 5) hx hb dX4_dirtySet_5 (lv_at hl 4 rfl) ?_
  refine lv_aload_n (pc := 7) hx hb dX4_dirtySet_7 rfl (lv_at hl 0 rfl) ?_
  refine zr_get (pc := 8) S hK (hP 0 (by decide)) rfl i_X4 0 (by decide) (List.mem_of_getElem? (i := 1) rfl) rfl dX4_dirtySet_8 ?_
  refine zr_get (pc := 11) S hK (hP 1 (by decide)) rfl i_X6 0 (by decide) (List.mem_of_getElem? (i := 2) rfl) rfl dX4_dirtySet_11 ?_
  refine zr_top (b := g 0) (rl_nC hR) ?_
  refine zr_icmp_ge (pc := 14) (tgt := 100) hx hb dX4_dirtySet_14 (by decide) (by omega) (by omega) (fun c_14 => ?_) (fun c_14 => ?_)
  · refine lv_iload_n (pc := 100) hx hb dX4_dirtySet_100 rfl (lv_at hl 3 rfl) ?_
    exact W.iret (v := zI (x)) hx hb hr (fun tz ht hW => ⟨_, rfl, congrArg zI (by rw [h_x, show i = (g 0).toNat by omega]), ht⟩) (fun _ h => by cases h) dX4_dirtySet_101
  · have hcl := iv_cl hI (c := (i : Int)) (by omega) (by omega)
    have hdi := iv_di hI (c := (i : Int)) (by omega) (by omega)
    refine lv_iload_n (pc := 17) hx hb dX4_dirtySet_17 rfl (lv_at hl 1 rfl) ?_
    refine lv_iconst (pc := 18) (v := zI 3) hx hb dX4_dirtySet_18 rfl ?_
    refine zr_icmp_eq (pc := 19) (tgt := 38) hx hb dX4_dirtySet_19 (by decide) (by omega) (by decide) (fun c_19 => ?_) (fun c_19 => ?_)
    · refine lv_iconst (pc := 38) (v := zI 1) hx hb dX4_dirtySet_38 rfl ?_
      refine lv_goto (pc := 39) (tgt := 43) hx hb dX4_dirtySet_39 (by decide) ?_
      refine lv_istore (pc := 43) (lv' := [(5, .int (zI (1))), (0, .ref (ad 0)), (1, .int (zI (p))), (2, .int (zI (q))), (3, .int (zI (x))), (4, .int (zI ((i : Int))))]) hx hb dX4_dirtySet_43 hl (by decide) rfl (fun ls hl => ?_)
      refine lv_iload (pc := 45) hx hb dX4_dirtySet_45 (lv_at hl 0 rfl) ?_
      refine zr_if_eq (pc := 47) (tgt := 94) hx hb dX4_dirtySet_47 (by decide) (by decide) (fun z => absurd z (by decide)) (fun _ => ?_)
      refine lv_aload_n (pc := 50) hx hb dX4_dirtySet_50 rfl (lv_at hl 1 rfl) ?_
      refine zr_get (pc := 51) S hK (hP 0 (by decide)) rfl i_X4 0 (by decide) (List.mem_of_getElem? (i := 1) rfl) rfl dX4_dirtySet_51 ?_
      refine zr_get (pc := 54) S hK (hP 1 (by decide)) rfl i_X6 5 (by decide) (List.mem_of_getElem? (i := 4) rfl) rfl dX4_dirtySet_54 ?_
      refine lv_iload (pc := 57) hx hb dX4_dirtySet_57 (lv_at hl 5 rfl) ?_
      refine zr_ni (pc := 59) (As := [.ref (ad 9), .int (zI ((i : Int)))]) (rest := []) S (ct_X7_at l D cI cT (ad 9) 16 _ ((i : Int)) (gC g i 6) (by decide) (by omega) (by omega) (rl_di hR (by omega) (by omega)) (by omega)) (va_cnB 2 hts gX4_dirtySet_X7_at_n80 rfl rfl rfl (zK_nest hK 19 rfl) (hts _ (List.mem_of_getElem? (i := 6) rfl)) (by decide +kernel) ⟨Nat.le_of_ble_eq_true rfl, Nat.le_of_ble_eq_true rfl⟩) (hts _ (List.mem_of_getElem? (i := 5) rfl)) zs_ar hK (zAr_of (zK_int hK) (hP 9 (by decide))) rfl hl.1 rfl (Nat.le_of_ble_eq_true rfl) dX4_dirtySet_59 ⟨Nat.le_of_ble_eq_true rfl, Nat.le_of_ble_eq_true rfl⟩ (fun r_59 hr_59 => ?_)
      subst hr_59
      refine zr_if_le (pc := 62) (tgt := 94) hx hb dX4_dirtySet_62 (by decide) (by omega) (fun c_62 => ?_) (fun c_62 => ?_)
      · refine zr_iinc (pc := 94) (d := ((i : Int)) + 1) (lv' := [(4, .int (zI (((i : Int)) + 1))), (5, .int (zI (1))), (0, .ref (ad 0)), (1, .int (zI (p))), (2, .int (zI (q))), (3, .int (zI (x)))]) hx hb dX4_dirtySet_94 hl (k := 5) rfl rfl (by decide) rfl (fun ls hl => ?_)
        refine lv_goto (pc := 97) (tgt := 5) hx hb dX4_dirtySet_97 (by decide) ?_
        exact ih_5 (i + 1) (x) (⟨by omega, by rw [dset_s]; first | (rw [ti_t ⟨by first | exact Or.inl c_19 | exact Or.inr c_35, by omega, hb_68, hb_81⟩]; omega) | (rw [ti_f (fun z => by first | exact hb_81 z.2.2.2 | exact z.2.2.1 hb_68 | exact absurd z.2.1 (by omega) | exact z.1.elim c_19 c_35)]; omega)⟩) (by omega) ls (lv_sub hl [2, 3, 4, 5, 0] rfl)
      · refine lv_aload_n (pc := 65) hx hb dX4_dirtySet_65 rfl (lv_at hl 1 rfl) ?_
        refine lv_iload (pc := 66) hx hb dX4_dirtySet_66 (lv_at hl 5 rfl) ?_
        refine zr_vi (pc := 68) (As := [.int (zI ((i : Int)))]) (rest := []) S (ct_X4_isAway l D cI cT ad σ g hR hI ((i : Int)) (by omega) (by omega)) (cwV 1 hts gX4_dirtySet_X4_isAway rfl rfl rfl (by decide +kernel) ⟨Nat.le_of_ble_eq_true rfl, Nat.le_of_ble_eq_true rfl⟩) zs0 hK hP (zr_recv hK (hP 0 (by decide)) rfl) rfl hl.1 rfl (Nat.le_of_ble_eq_true rfl) dX4_dirtySet_68 ⟨Nat.le_of_ble_eq_true rfl, Nat.le_of_ble_eq_true rfl⟩ (fun r_68 hr_68 => ?_)
        rcases hr_68 with ⟨hb_68, rfl⟩ | ⟨hb_68, rfl⟩
        · refine zr_if_ne (pc := 71) (tgt := 94) hx hb dX4_dirtySet_71 (by decide) (by decide) (fun _ => ?_) (fun z => absurd z (by decide))
          refine zr_iinc (pc := 94) (d := ((i : Int)) + 1) (lv' := [(4, .int (zI (((i : Int)) + 1))), (5, .int (zI (1))), (0, .ref (ad 0)), (1, .int (zI (p))), (2, .int (zI (q))), (3, .int (zI (x)))]) hx hb dX4_dirtySet_94 hl (k := 5) rfl rfl (by decide) rfl (fun ls hl => ?_)
          refine lv_goto (pc := 97) (tgt := 5) hx hb dX4_dirtySet_97 (by decide) ?_
          exact ih_5 (i + 1) (x) (⟨by omega, by rw [dset_s]; first | (rw [ti_t ⟨by first | exact Or.inl c_19 | exact Or.inr c_35, by omega, hb_68, hb_81⟩]; omega) | (rw [ti_f (fun z => by first | exact hb_81 z.2.2.2 | exact z.2.2.1 hb_68 | exact absurd z.2.1 (by omega) | exact z.1.elim c_19 c_35)]; omega)⟩) (by omega) ls (lv_sub hl [2, 3, 4, 5, 0] rfl)
        · refine zr_if_ne (pc := 71) (tgt := 94) hx hb dX4_dirtySet_71 (by decide) (by decide) (fun z => absurd z (by decide)) (fun _ => ?_)
          refine lv_aload_n (pc := 74) hx hb dX4_dirtySet_74 rfl (lv_at hl 1 rfl) ?_
          refine zr_get (pc := 75) S hK (hP 0 (by decide)) rfl i_X4 0 (by decide) (List.mem_of_getElem? (i := 1) rfl) rfl dX4_dirtySet_75 ?_
          refine lv_iload (pc := 78) hx hb dX4_dirtySet_78 (lv_at hl 5 rfl) ?_
          refine lv_iload_n (pc := 80) hx hb dX4_dirtySet_80 rfl (lv_at hl 2 rfl) ?_
          refine zr_vi (pc := 81) (As := [.int (zI ((i : Int))), .int (zI (p))]) (rest := []) S (ct_X6_canBeWashed l D cI cT bs ad σ g hR hI ((i : Int)) p (by omega) (by omega) (by omega) (by omega)) (cwV 2 hts gX4_dirtySet_X6_canBeWashed rfl rfl rfl (by decide +kernel) ⟨Nat.le_of_ble_eq_true rfl, Nat.le_of_ble_eq_true rfl⟩) zs_T hK ⟨hP, hT⟩ (zr_recv hK (hP 1 (by decide)) rfl) rfl hl.1 rfl (Nat.le_of_ble_eq_true rfl) dX4_dirtySet_81 ⟨Nat.le_of_ble_eq_true rfl, Nat.le_of_ble_eq_true rfl⟩ (fun r_81 hr_81 => ?_)
          rcases hr_81 with ⟨hb_81, rfl⟩ | ⟨hb_81, rfl⟩
          · refine zr_if_eq (pc := 84) (tgt := 94) hx hb dX4_dirtySet_84 (by decide) (by decide) (fun z => absurd z (by decide)) (fun _ => ?_)
            refine lv_iload_n (pc := 87) hx hb dX4_dirtySet_87 rfl (lv_at hl 4 rfl) ?_
            refine lv_iconst (pc := 88) (v := zI 1) hx hb dX4_dirtySet_88 rfl ?_
            refine lv_iload (pc := 89) hx hb dX4_dirtySet_89 (lv_at hl 5 rfl) ?_
            refine zr_ishl (pc := 91) (d := pw i) hx hb dX4_dirtySet_91 (zi_pw (by omega) (by omega)) ?_
            refine zr_ior (pc := 92) (d := x + pw i) hx hb dX4_dirtySet_92 (zi_or (by omega) (by omega) (by omega) (by omega)) ?_
            refine lv_istore_n (pc := 93) (lv' := [(3, .int (zI (x + pw i))), (5, .int (zI (1))), (0, .ref (ad 0)), (1, .int (zI (p))), (2, .int (zI (q))), (4, .int (zI ((i : Int))))]) hx hb dX4_dirtySet_93 rfl hl (by decide) rfl (fun ls hl => ?_)
            refine zr_iinc (pc := 94) (d := ((i : Int)) + 1) (lv' := [(4, .int (zI (((i : Int)) + 1))), (3, .int (zI (x + pw i))), (5, .int (zI (1))), (0, .ref (ad 0)), (1, .int (zI (p))), (2, .int (zI (q)))]) hx hb dX4_dirtySet_94 hl (k := 5) rfl rfl (by decide) rfl (fun ls hl => ?_)
            refine lv_goto (pc := 97) (tgt := 5) hx hb dX4_dirtySet_97 (by decide) ?_
            exact ih_5 (i + 1) ((x + pw i)) (⟨by omega, by rw [dset_s]; first | (rw [ti_t ⟨by first | exact Or.inl c_19 | exact Or.inr c_35, by omega, hb_68, hb_81⟩]; omega) | (rw [ti_f (fun z => by first | exact hb_81 z.2.2.2 | exact z.2.2.1 hb_68 | exact absurd z.2.1 (by omega) | exact z.1.elim c_19 c_35)]; omega)⟩) (by omega) ls (lv_sub hl [3, 4, 5, 1, 0] rfl)
          · refine zr_if_eq (pc := 84) (tgt := 94) hx hb dX4_dirtySet_84 (by decide) (by decide) (fun _ => ?_) (fun z => absurd z (by decide))
            refine zr_iinc (pc := 94) (d := ((i : Int)) + 1) (lv' := [(4, .int (zI (((i : Int)) + 1))), (5, .int (zI (1))), (0, .ref (ad 0)), (1, .int (zI (p))), (2, .int (zI (q))), (3, .int (zI (x)))]) hx hb dX4_dirtySet_94 hl (k := 5) rfl rfl (by decide) rfl (fun ls hl => ?_)
            refine lv_goto (pc := 97) (tgt := 5) hx hb dX4_dirtySet_97 (by decide) ?_
            exact ih_5 (i + 1) (x) (⟨by omega, by rw [dset_s]; first | (rw [ti_t ⟨by first | exact Or.inl c_19 | exact Or.inr c_35, by omega, hb_68, hb_81⟩]; omega) | (rw [ti_f (fun z => by first | exact hb_81 z.2.2.2 | exact z.2.2.1 hb_68 | exact absurd z.2.1 (by omega) | exact z.1.elim c_19 c_35)]; omega)⟩) (by omega) ls (lv_sub hl [2, 3, 4, 5, 0] rfl)
    · refine lv_aload_n (pc := 22) hx hb dX4_dirtySet_22 rfl (lv_at hl 0 rfl) ?_
      refine zr_get (pc := 23) S hK (hP 0 (by decide)) rfl i_X4 0 (by decide) (List.mem_of_getElem? (i := 1) rfl) rfl dX4_dirtySet_23 ?_
      refine zr_get (pc := 26) S hK (hP 1 (by decide)) rfl i_X6 4 (by decide) (List.mem_of_getElem? (i := 3) rfl) rfl dX4_dirtySet_26 ?_
      refine lv_iload (pc := 29) hx hb dX4_dirtySet_29 (lv_at hl 4 rfl) ?_
      refine zr_ni (pc := 31) (As := [.ref (ad 8), .int (zI ((i : Int)))]) (rest := []) S (ct_X7_at l D cI cT (ad 8) 16 _ ((i : Int)) (gC g i 5) (by decide) (by omega) (by omega) (rl_cl hR (by omega) (by omega)) (by omega)) (va_cnB 2 hts gX4_dirtySet_X7_at_n80 rfl rfl rfl (zK_nest hK 19 rfl) (hts _ (List.mem_of_getElem? (i := 6) rfl)) (by decide +kernel) ⟨Nat.le_of_ble_eq_true rfl, Nat.le_of_ble_eq_true rfl⟩) (hts _ (List.mem_of_getElem? (i := 5) rfl)) zs_ar hK (zAr_of (zK_int hK) (hP 8 (by decide))) rfl hl.1 rfl (Nat.le_of_ble_eq_true rfl) dX4_dirtySet_31 ⟨Nat.le_of_ble_eq_true rfl, Nat.le_of_ble_eq_true rfl⟩ (fun r_31 hr_31 => ?_)
      subst hr_31
      refine lv_iload_n (pc := 34) hx hb dX4_dirtySet_34 rfl (lv_at hl 2 rfl) ?_
      refine zr_icmp_ne (pc := 35) (tgt := 42) hx hb dX4_dirtySet_35 (by decide) (by omega) (by omega) (fun c_35 => ?_) (fun c_35 => ?_)
      · refine lv_iconst (pc := 42) (v := zI 0) hx hb dX4_dirtySet_42 rfl ?_
        refine lv_istore (pc := 43) (lv' := [(5, .int (zI (0))), (0, .ref (ad 0)), (1, .int (zI (p))), (2, .int (zI (q))), (3, .int (zI (x))), (4, .int (zI ((i : Int))))]) hx hb dX4_dirtySet_43 hl (by decide) rfl (fun ls hl => ?_)
        refine lv_iload (pc := 45) hx hb dX4_dirtySet_45 (lv_at hl 0 rfl) ?_
        refine zr_if_eq (pc := 47) (tgt := 94) hx hb dX4_dirtySet_47 (by decide) (by decide) (fun _ => ?_) (fun z => absurd z (by decide))
        refine zr_iinc (pc := 94) (d := ((i : Int)) + 1) (lv' := [(4, .int (zI (((i : Int)) + 1))), (5, .int (zI (0))), (0, .ref (ad 0)), (1, .int (zI (p))), (2, .int (zI (q))), (3, .int (zI (x)))]) hx hb dX4_dirtySet_94 hl (k := 5) rfl rfl (by decide) rfl (fun ls hl => ?_)
        refine lv_goto (pc := 97) (tgt := 5) hx hb dX4_dirtySet_97 (by decide) ?_
        exact ih_5 (i + 1) (x) (⟨by omega, by rw [dset_s]; first | (rw [ti_t ⟨by first | exact Or.inl c_19 | exact Or.inr c_35, by omega, hb_68, hb_81⟩]; omega) | (rw [ti_f (fun z => by first | exact hb_81 z.2.2.2 | exact z.2.2.1 hb_68 | exact absurd z.2.1 (by omega) | exact z.1.elim c_19 c_35)]; omega)⟩) (by omega) ls (lv_sub hl [2, 3, 4, 5, 0] rfl)
      · refine lv_iconst (pc := 38) (v := zI 1) hx hb dX4_dirtySet_38 rfl ?_
        refine lv_goto (pc := 39) (tgt := 43) hx hb dX4_dirtySet_39 (by decide) ?_
        refine lv_istore (pc := 43) (lv' := [(5, .int (zI (1))), (0, .ref (ad 0)), (1, .int (zI (p))), (2, .int (zI (q))), (3, .int (zI (x))), (4, .int (zI ((i : Int))))]) hx hb dX4_dirtySet_43 hl (by decide) rfl (fun ls hl => ?_)
        refine lv_iload (pc := 45) hx hb dX4_dirtySet_45 (lv_at hl 0 rfl) ?_
        refine zr_if_eq (pc := 47) (tgt := 94) hx hb dX4_dirtySet_47 (by decide) (by decide) (fun z => absurd z (by decide)) (fun _ => ?_)
        refine lv_aload_n (pc := 50) hx hb dX4_dirtySet_50 rfl (lv_at hl 1 rfl) ?_
        refine zr_get (pc := 51) S hK (hP 0 (by decide)) rfl i_X4 0 (by decide) (List.mem_of_getElem? (i := 1) rfl) rfl dX4_dirtySet_51 ?_
        refine zr_get (pc := 54) S hK (hP 1 (by decide)) rfl i_X6 5 (by decide) (List.mem_of_getElem? (i := 4) rfl) rfl dX4_dirtySet_54 ?_
        refine lv_iload (pc := 57) hx hb dX4_dirtySet_57 (lv_at hl 5 rfl) ?_
        refine zr_ni (pc := 59) (As := [.ref (ad 9), .int (zI ((i : Int)))]) (rest := []) S (ct_X7_at l D cI cT (ad 9) 16 _ ((i : Int)) (gC g i 6) (by decide) (by omega) (by omega) (rl_di hR (by omega) (by omega)) (by omega)) (va_cnB 2 hts gX4_dirtySet_X7_at_n80 rfl rfl rfl (zK_nest hK 19 rfl) (hts _ (List.mem_of_getElem? (i := 6) rfl)) (by decide +kernel) ⟨Nat.le_of_ble_eq_true rfl, Nat.le_of_ble_eq_true rfl⟩) (hts _ (List.mem_of_getElem? (i := 5) rfl)) zs_ar hK (zAr_of (zK_int hK) (hP 9 (by decide))) rfl hl.1 rfl (Nat.le_of_ble_eq_true rfl) dX4_dirtySet_59 ⟨Nat.le_of_ble_eq_true rfl, Nat.le_of_ble_eq_true rfl⟩ (fun r_59 hr_59 => ?_)
        subst hr_59
        refine zr_if_le (pc := 62) (tgt := 94) hx hb dX4_dirtySet_62 (by decide) (by omega) (fun c_62 => ?_) (fun c_62 => ?_)
        · refine zr_iinc (pc := 94) (d := ((i : Int)) + 1) (lv' := [(4, .int (zI (((i : Int)) + 1))), (5, .int (zI (1))), (0, .ref (ad 0)), (1, .int (zI (p))), (2, .int (zI (q))), (3, .int (zI (x)))]) hx hb dX4_dirtySet_94 hl (k := 5) rfl rfl (by decide) rfl (fun ls hl => ?_)
          refine lv_goto (pc := 97) (tgt := 5) hx hb dX4_dirtySet_97 (by decide) ?_
          exact ih_5 (i + 1) (x) (⟨by omega, by rw [dset_s]; first | (rw [ti_t ⟨by first | exact Or.inl c_19 | exact Or.inr c_35, by omega, hb_68, hb_81⟩]; omega) | (rw [ti_f (fun z => by first | exact hb_81 z.2.2.2 | exact z.2.2.1 hb_68 | exact absurd z.2.1 (by omega) | exact z.1.elim c_19 c_35)]; omega)⟩) (by omega) ls (lv_sub hl [2, 3, 4, 5, 0] rfl)
        · refine lv_aload_n (pc := 65) hx hb dX4_dirtySet_65 rfl (lv_at hl 1 rfl) ?_
          refine lv_iload (pc := 66) hx hb dX4_dirtySet_66 (lv_at hl 5 rfl) ?_
          refine zr_vi (pc := 68) (As := [.int (zI ((i : Int)))]) (rest := []) S (ct_X4_isAway l D cI cT ad σ g hR hI ((i : Int)) (by omega) (by omega)) (cwV 1 hts gX4_dirtySet_X4_isAway rfl rfl rfl (by decide +kernel) ⟨Nat.le_of_ble_eq_true rfl, Nat.le_of_ble_eq_true rfl⟩) zs0 hK hP (zr_recv hK (hP 0 (by decide)) rfl) rfl hl.1 rfl (Nat.le_of_ble_eq_true rfl) dX4_dirtySet_68 ⟨Nat.le_of_ble_eq_true rfl, Nat.le_of_ble_eq_true rfl⟩ (fun r_68 hr_68 => ?_)
          rcases hr_68 with ⟨hb_68, rfl⟩ | ⟨hb_68, rfl⟩
          · refine zr_if_ne (pc := 71) (tgt := 94) hx hb dX4_dirtySet_71 (by decide) (by decide) (fun _ => ?_) (fun z => absurd z (by decide))
            refine zr_iinc (pc := 94) (d := ((i : Int)) + 1) (lv' := [(4, .int (zI (((i : Int)) + 1))), (5, .int (zI (1))), (0, .ref (ad 0)), (1, .int (zI (p))), (2, .int (zI (q))), (3, .int (zI (x)))]) hx hb dX4_dirtySet_94 hl (k := 5) rfl rfl (by decide) rfl (fun ls hl => ?_)
            refine lv_goto (pc := 97) (tgt := 5) hx hb dX4_dirtySet_97 (by decide) ?_
            exact ih_5 (i + 1) (x) (⟨by omega, by rw [dset_s]; first | (rw [ti_t ⟨by first | exact Or.inl c_19 | exact Or.inr c_35, by omega, hb_68, hb_81⟩]; omega) | (rw [ti_f (fun z => by first | exact hb_81 z.2.2.2 | exact z.2.2.1 hb_68 | exact absurd z.2.1 (by omega) | exact z.1.elim c_19 c_35)]; omega)⟩) (by omega) ls (lv_sub hl [2, 3, 4, 5, 0] rfl)
          · refine zr_if_ne (pc := 71) (tgt := 94) hx hb dX4_dirtySet_71 (by decide) (by decide) (fun z => absurd z (by decide)) (fun _ => ?_)
            refine lv_aload_n (pc := 74) hx hb dX4_dirtySet_74 rfl (lv_at hl 1 rfl) ?_
            refine zr_get (pc := 75) S hK (hP 0 (by decide)) rfl i_X4 0 (by decide) (List.mem_of_getElem? (i := 1) rfl) rfl dX4_dirtySet_75 ?_
            refine lv_iload (pc := 78) hx hb dX4_dirtySet_78 (lv_at hl 5 rfl) ?_
            refine lv_iload_n (pc := 80) hx hb dX4_dirtySet_80 rfl (lv_at hl 2 rfl) ?_
            refine zr_vi (pc := 81) (As := [.int (zI ((i : Int))), .int (zI (p))]) (rest := []) S (ct_X6_canBeWashed l D cI cT bs ad σ g hR hI ((i : Int)) p (by omega) (by omega) (by omega) (by omega)) (cwV 2 hts gX4_dirtySet_X6_canBeWashed rfl rfl rfl (by decide +kernel) ⟨Nat.le_of_ble_eq_true rfl, Nat.le_of_ble_eq_true rfl⟩) zs_T hK ⟨hP, hT⟩ (zr_recv hK (hP 1 (by decide)) rfl) rfl hl.1 rfl (Nat.le_of_ble_eq_true rfl) dX4_dirtySet_81 ⟨Nat.le_of_ble_eq_true rfl, Nat.le_of_ble_eq_true rfl⟩ (fun r_81 hr_81 => ?_)
            rcases hr_81 with ⟨hb_81, rfl⟩ | ⟨hb_81, rfl⟩
            · refine zr_if_eq (pc := 84) (tgt := 94) hx hb dX4_dirtySet_84 (by decide) (by decide) (fun z => absurd z (by decide)) (fun _ => ?_)
              refine lv_iload_n (pc := 87) hx hb dX4_dirtySet_87 rfl (lv_at hl 4 rfl) ?_
              refine lv_iconst (pc := 88) (v := zI 1) hx hb dX4_dirtySet_88 rfl ?_
              refine lv_iload (pc := 89) hx hb dX4_dirtySet_89 (lv_at hl 5 rfl) ?_
              refine zr_ishl (pc := 91) (d := pw i) hx hb dX4_dirtySet_91 (zi_pw (by omega) (by omega)) ?_
              refine zr_ior (pc := 92) (d := x + pw i) hx hb dX4_dirtySet_92 (zi_or (by omega) (by omega) (by omega) (by omega)) ?_
              refine lv_istore_n (pc := 93) (lv' := [(3, .int (zI (x + pw i))), (5, .int (zI (1))), (0, .ref (ad 0)), (1, .int (zI (p))), (2, .int (zI (q))), (4, .int (zI ((i : Int))))]) hx hb dX4_dirtySet_93 rfl hl (by decide) rfl (fun ls hl => ?_)
              refine zr_iinc (pc := 94) (d := ((i : Int)) + 1) (lv' := [(4, .int (zI (((i : Int)) + 1))), (3, .int (zI (x + pw i))), (5, .int (zI (1))), (0, .ref (ad 0)), (1, .int (zI (p))), (2, .int (zI (q)))]) hx hb dX4_dirtySet_94 hl (k := 5) rfl rfl (by decide) rfl (fun ls hl => ?_)
              refine lv_goto (pc := 97) (tgt := 5) hx hb dX4_dirtySet_97 (by decide) ?_
              exact ih_5 (i + 1) ((x + pw i)) (⟨by omega, by rw [dset_s]; first | (rw [ti_t ⟨by first | exact Or.inl c_19 | exact Or.inr c_35, by omega, hb_68, hb_81⟩]; omega) | (rw [ti_f (fun z => by first | exact hb_81 z.2.2.2 | exact z.2.2.1 hb_68 | exact absurd z.2.1 (by omega) | exact z.1.elim c_19 c_35)]; omega)⟩) (by omega) ls (lv_sub hl [3, 4, 5, 1, 0] rfl)
            · refine zr_if_eq (pc := 84) (tgt := 94) hx hb dX4_dirtySet_84 (by decide) (by decide) (fun _ => ?_) (fun z => absurd z (by decide))
              refine zr_iinc (pc := 94) (d := ((i : Int)) + 1) (lv' := [(4, .int (zI (((i : Int)) + 1))), (5, .int (zI (1))), (0, .ref (ad 0)), (1, .int (zI (p))), (2, .int (zI (q))), (3, .int (zI (x)))]) hx hb dX4_dirtySet_94 hl (k := 5) rfl rfl (by decide) rfl (fun ls hl => ?_)
              refine lv_goto (pc := 97) (tgt := 5) hx hb dX4_dirtySet_97 (by decide) ?_
              exact ih_5 (i + 1) (x) (⟨by omega, by rw [dset_s]; first | (rw [ti_t ⟨by first | exact Or.inl c_19 | exact Or.inr c_35, by omega, hb_68, hb_81⟩]; omega) | (rw [ti_f (fun z => by first | exact hb_81 z.2.2.2 | exact z.2.2.1 hb_68 | exact absurd z.2.1 (by omega) | exact z.1.elim c_19 c_35)]; omega)⟩) (by omega) ls (lv_sub hl [2, 3, 4, 5, 0] rfl)
