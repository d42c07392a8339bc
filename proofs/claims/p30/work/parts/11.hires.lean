set_option maxHeartbeats 4000000 in
set_option maxRecDepth 100000 in
theorem ct_X1_has (l : Launch) (D : va_G) (cI cT : ClassId) (ad : Nat → Nat) (σ : Nat → Int → Int) (g : Int → Int) (hR : Rel σ g) (hI : Inv g) (h : Int) (r_h : -2147483648 ≤ h ∧ h ≤ 2147483647) : zMr l yX1_has wsX1_has ({ frames := 0, cells := 0, slots := 0, locals := 0 }) D cI cT [.ref (ad 3), .int (zI (h))] (fun _ H => zW D ad 20 (sC cI ad σ) H) (fun r => bz (0 ≤ h ∧ h < g 2) r) := by
  refine Met.ofW (cc := cX1_has) (maxL := 2) (ret := (some .boolean)) (by decide) rfl ?_
  intro p_ e_ s m_ args below meth c_ s₁ B hml hv
  obtain ⟨rfl, hK, hF⟩ := hv
  have hx := B.exec
  have hb := B.bytes
  have hr := B.returns
  have hts := atoms_spec (ws := wsX1_has) B.pre
  have hown : s.vm.findClass RX1 = some m_.cls := findClass_of_methodNamed B.named
  have hlocks := B.notSynchronized
  have S : CallFix p_ m_ c_ cX1_has 2 s _ wsX1_has RX1 := ⟨hx, hb, hml, hown, hts⟩
  have i_X1 : ∀ w ∈ u_ws RX1 TX1 6, w ∈ wsX1_has := fun _ h => List.mem_cons_of_mem _ (List.mem_append_right _ h)
  have hP := hF
  have hnH := iv_nH hI
  have hl := lv_entry ([.ref (ad 3), .int (zI (h))]) (n := 2) (Nat.le_of_ble_eq_true rfl)
  rw [lg_entry_eq]
  generalize (lg_sl ([.ref (ad 3), .int (zI (h))]) ++ List.replicate (2 - (lg_sl ([.ref (ad 3), .int (zI (h))])).length) Slot.unset).toArray = ls at hl ⊢
  have hl : lv_has ls 2 [(0, .ref (ad 3)), (1, .int (zI (h)))] := hl
  refine lv_iload_n (pc := 0) hx hb dX1_has_0 rfl (lv_at hl 1 rfl) ?_
  refine zr_if_lt (pc := 1) (tgt := 16) hx hb dX1_has_1 (by decide) (by omega) (fun c_1 => ?_) (fun c_1 => ?_)
  · refine lv_iconst (pc := 16) (v := zI 0) hx hb dX1_has_16 rfl ?_
    exact W.zret (ty := .boolean) (v := zI (0)) hx hb hr (by first | rfl | decide) (fun tz ht hW => ⟨_, rfl, bz_f (by omega), ht⟩) (fun _ h => by cases h) dX1_has_17
  · refine lv_iload_n (pc := 4) hx hb dX1_has_4 rfl (lv_at hl 1 rfl) ?_
    refine lv_aload_n (pc := 5) hx hb dX1_has_5 rfl (lv_at hl 0 rfl) ?_
    refine zr_get (pc := 6) S hK (hP 3 (by decide)) rfl i_X1 0 (by decide) (List.mem_of_getElem? (i := 1) rfl) rfl dX1_has_6 ?_
    refine zr_top (b := g 2) (rl_nH hR) ?_
    refine zr_icmp_ge (pc := 9) (tgt := 16) hx hb dX1_has_9 (by decide) (by omega) (by omega) (fun c_9 => ?_) (fun c_9 => ?_)
    · refine lv_iconst (pc := 16) (v := zI 0) hx hb dX1_has_16 rfl ?_
      exact W.zret (ty := .boolean) (v := zI (0)) hx hb hr (by first | rfl | decide) (fun tz ht hW => ⟨_, rfl, bz_f (by omega), ht⟩) (fun _ h => by cases h) dX1_has_17
    · refine lv_iconst (pc := 12) (v := zI 1) hx hb dX1_has_12 rfl ?_
      refine lv_goto (pc := 13) (tgt := 17) hx hb dX1_has_13 (by decide) ?_
      exact W.zret (ty := .boolean) (v := zI (1)) hx hb hr (by first | rfl | decide) (fun tz ht hW => ⟨_, rfl, bz_t (by omega), ht⟩) (fun _ h => by cases h) dX1_has_17
set_option maxHeartbeats 4000000 in
set_option maxRecDepth 100000 in
theorem ct_X1_dayAfter (l : Launch) (D : va_G) (cI cT : ClassId) (ad : Nat → Nat) (σ : Nat → Int → Int) (g : Int → Int) (hR : Rel σ g) (hI : Inv g) (h : Int) (h0 : 0 ≤ h) (h1 : h < g 2) : zMr l yX1_dayAfter wsX1_dayAfter ({ frames := 1, cells := 0, slots := 0, locals := 21 }) D cI cT [.ref (ad 3), .int (zI (h))] (fun _ H => zW D ad 20 (sC cI ad σ) H) (fun r => r = zI (gH g h 1 + gH g h 2)) := by
  refine Met.ofW (cc := cX1_dayAfter) (maxL := 2) (ret := (some .int)) (by decide) rfl ?_
  intro p_ e_ s m_ args below meth c_ s₁ B hml hv
  obtain ⟨rfl, hK, hF⟩ := hv
  have hx := B.exec
  have hb := B.bytes
  have hr := B.returns
  have hts := atoms_spec (ws := wsX1_dayAfter) B.pre
  have hown : s.vm.findClass RX1 = some m_.cls := findClass_of_methodNamed B.named
  have hlocks := B.notSynchronized
  have S : CallFix p_ m_ c_ cX1_dayAfter 2 s _ wsX1_dayAfter RX1 := ⟨hx, hb, hml, hown, hts⟩
  have i_X1 : ∀ w ∈ u_ws RX1 TX1 6, w ∈ wsX1_dayAfter := fun _ h => List.mem_cons_of_mem _ (List.mem_append_right _ h)
  have hP := hF
  have hnH := iv_nH hI
  have hl := lv_entry ([.ref (ad 3), .int (zI (h))]) (n := 2) (Nat.le_of_ble_eq_true rfl)
  rw [lg_entry_eq]
  generalize (lg_sl ([.ref (ad 3), .int (zI (h))]) ++ List.replicate (2 - (lg_sl ([.ref (ad 3), .int (zI (h))])).length) Slot.unset).toArray = ls at hl ⊢
  have hl : lv_has ls 2 [(0, .ref (ad 3)), (1, .int (zI (h)))] := hl
  refine lv_aload_n (pc := 0) hx hb dX1_dayAfter_0 rfl (lv_at hl 0 rfl) ?_
  refine zr_get (pc := 1) S hK (hP 3 (by decide)) rfl i_X1 2 (by decide) (List.mem_of_getElem? (i := 1) rfl) rfl dX1_dayAfter_1 ?_
  refine lv_iload_n (pc := 4) hx hb dX1_dayAfter_4 rfl (lv_at hl 1 rfl) ?_
  refine zr_ni (pc := 5) (As := [.ref (ad 16), .int (zI (h))]) (rest := []) S (ct_X7_at l D cI cT (ad 16) 24 _ h (gH g h 1) (by decide) (by omega) (by omega) (rl_h1 hR h0 h1) (by omega)) (va_cnB 2 hts gX1_dayAfter_X7_at_n43 rfl rfl rfl (zK_nest hK 12 rfl) (hts _ (List.mem_of_getElem? (i := 4) rfl)) (by decide +kernel) ⟨Nat.le_of_ble_eq_true rfl, Nat.le_of_ble_eq_true rfl⟩) (hts _ (List.mem_of_getElem? (i := 3) rfl)) zs_ar hK (zAr_of (zK_int hK) (hP 16 (by decide))) rfl hl.1 rfl (Nat.le_of_ble_eq_true rfl) dX1_dayAfter_5 ⟨Nat.le_of_ble_eq_true rfl, Nat.le_of_ble_eq_true rfl⟩ (fun r_5 hr_5 => ?_)
  subst hr_5
  refine lv_aload_n (pc := 8) hx hb dX1_dayAfter_8 rfl (lv_at hl 0 rfl) ?_
  refine zr_get (pc := 9) S hK (hP 3 (by decide)) rfl i_X1 3 (by decide) (List.mem_of_getElem? (i := 2) rfl) rfl dX1_dayAfter_9 ?_
  refine lv_iload_n (pc := 12) hx hb dX1_dayAfter_12 rfl (lv_at hl 1 rfl) ?_
  refine zr_ni (pc := 13) (As := [.ref (ad 17), .int (zI (h))]) (rest := [.int (zI (gH g h 1))]) S (ct_X7_at l D cI cT (ad 17) 24 _ h (gH g h 2) (by decide) (by omega) (by omega) (rl_h2 hR h0 h1) (by omega)) (va_cnB 2 hts gX1_dayAfter_X7_at_n43 rfl rfl rfl (zK_nest hK 12 rfl) (hts _ (List.mem_of_getElem? (i := 4) rfl)) (by decide +kernel) ⟨Nat.le_of_ble_eq_true rfl, Nat.le_of_ble_eq_true rfl⟩) (hts _ (List.mem_of_getElem? (i := 3) rfl)) zs_ar hK (zAr_of (zK_int hK) (hP 17 (by decide))) rfl hl.1 rfl (Nat.le_of_ble_eq_true rfl) dX1_dayAfter_13 ⟨Nat.le_of_ble_eq_true rfl, Nat.le_of_ble_eq_true rfl⟩ (fun r_13 hr_13 => ?_)
  subst hr_13
  refine zr_iadd (pc := 16) (d := (gH g h 1) + (gH g h 2)) hx hb dX1_dayAfter_16 rfl ?_
  exact W.iret (v := zI ((gH g h 1) + (gH g h 2))) hx hb hr (fun tz ht hW => ⟨_, rfl, congrArg zI (rfl), ht⟩) (fun _ h => by cases h) dX1_dayAfter_17
set_option maxHeartbeats 4000000 in
set_option maxRecDepth 100000 in
theorem ct_X1_overlapping (l : Launch) (D : va_G) (cI cT : ClassId) (ad : Nat → Nat) (σ : Nat → Int → Int) (g : Int → Int) (hR : Rel σ g) (hI : Inv g) (c : Int) (d : Int) (n : Int) (c0 : -1 ≤ c) (c1 : c ≤ 100) (d0 : 0 ≤ d) (d1 : d ≤ 1000) (n0 : 0 ≤ n) (n1 : n ≤ 100) : zMr l yX1_overlapping wsX1_overlapping ({ frames := 2, cells := 0, slots := 0, locals := 42 }) D cI cT [.ref (ad 3), .int (zI (c)), .int (zI (d)), .int (zI (n))] (fun _ H => zW D ad 20 (sC cI ad σ) H) (fun r => (r = zI (-1) ∧ ¬ awy g c d n) ∨ ∃ h : Int, 0 ≤ h ∧ h < g 2 ∧ ovl g c d n h ∧ r = zI h) := by
  refine Met.ofW (cc := cX1_overlapping) (maxL := 5) (ret := (some .int)) (by decide) rfl ?_
  intro p_ e_ s m_ args below meth c_ s₁ B hml hv
  obtain ⟨rfl, hK, hF⟩ := hv
  have hx := B.exec
  have hb := B.bytes
  have hr := B.returns
  have hts := atoms_spec (ws := wsX1_overlapping) B.pre
  have hown : s.vm.findClass RX1 = some m_.cls := findClass_of_methodNamed B.named
  have hlocks := B.notSynchronized
  have S : CallFix p_ m_ c_ cX1_overlapping 5 s _ wsX1_overlapping RX1 := ⟨hx, hb, hml, hown, hts⟩
  have i_X1 : ∀ w ∈ u_ws RX1 TX1 6, w ∈ wsX1_overlapping := fun _ h => List.mem_cons_of_mem _ (List.mem_append_right _ h)
  have hP := hF
  have hnH := iv_nH hI
  have hnC := iv_nC hI
  have hl := lv_entry ([.ref (ad 3), .int (zI (c)), .int (zI (d)), .int (zI (n))]) (n := 5) (Nat.le_of_ble_eq_true rfl)
  rw [lg_entry_eq]
  generalize (lg_sl ([.ref (ad 3), .int (zI (c)), .int (zI (d)), .int (zI (n))]) ++ List.replicate (5 - (lg_sl ([.ref (ad 3), .int (zI (c)), .int (zI (d)), .int (zI (n))])).length) Slot.unset).toArray = ls at hl ⊢
  have hl : lv_has ls 5 [(0, .ref (ad 3)), (1, .int (zI (c))), (2, .int (zI (d))), (3, .int (zI (n)))] := hl
  refine lv_iconst (pc := 0) (v := zI 0) hx hb dX1_overlapping_0 rfl ?_
  refine lv_istore (pc := 1) (lv' := [(4, .int (zI (0))), (0, .ref (ad 3)), (1, .int (zI (c))), (2, .int (zI (d))), (3, .int (zI (n)))]) hx hb dX1_overlapping_1 hl (by decide) rfl (fun ls hl => ?_)
  refine zr_loop1 (fun (i : Nat) => ((i : Int) ≤ g 2) ∧ (∀ b : Int, 0 ≤ b → b < (i : Int) → ¬ ovl g c d n b)) (fun (i : Nat) => (g 2 : Int).toNat - i) (fun (i : Nat) => [(0, .ref (ad 3)), (1, .int (zI (c))), (2, .int (zI (d))), (3, .int (zI (n))), (4, .int (zI ((i : Int))))]) ?_ (0) (⟨by omega, fa_0⟩) (lv_sub hl [1, 2, 3, 4, 0] rfl)
  intro i hinv ih_3 ls hl
  obtain ⟨h_i, h_n⟩ := hinv
  refine lv_iload (pc := 3) hx hb dX1_overlapping_3 (lv_at hl 4 rfl) ?_
  refine lv_aload_n (pc := 5) hx hb dX1_overlapping_5 rfl (lv_at hl 0 rfl) ?_
  refine zr_get (pc := 6) S hK (hP 3 (by decide)) rfl i_X1 0 (by decide) (List.mem_of_getElem? (i := 1) rfl) rfl dX1_overlapping_6 ?_
  refine zr_top (b := g 2) (rl_nH hR) ?_
  refine zr_icmp_ge (pc := 9) (tgt := 59) hx hb dX1_overlapping_9 (by decide) (by omega) (by omega) (fun c_9 => ?_) (fun c_9 => ?_)
  · refine lv_iconst (pc := 59) (v := zI (-1)) hx hb dX1_overlapping_59 rfl ?_
    exact W.iret (v := zI ((-1))) hx hb hr (fun tz ht hW => ⟨_, rfl, Or.inl ⟨rfl, fun h => by obtain ⟨b, b0, b1, b2⟩ := h; exact h_n b b0 (by omega) b2⟩, ht⟩) (fun _ h => by cases h) dX1_overlapping_60
  · have hh := iv_hi hI (h := (i : Int)) (by omega) (by omega)
    refine lv_aload_n (pc := 12) hx hb dX1_overlapping_12 rfl (lv_at hl 0 rfl) ?_
    refine zr_get (pc := 13) S hK (hP 3 (by decide)) rfl i_X1 1 (by decide) (List.mem_of_getElem? (i := 2) rfl) rfl dX1_overlapping_13 ?_
    refine lv_iload (pc := 16) hx hb dX1_overlapping_16 (lv_at hl 4 rfl) ?_
    refine zr_ni (pc := 18) (As := [.ref (ad 15), .int (zI ((i : Int)))]) (rest := []) S (ct_X7_at l D cI cT (ad 15) 24 _ ((i : Int)) (gH g i 0) (by decide) (by omega) (by omega) (rl_h0 hR (by omega) (by omega)) (by omega)) (va_cnB 2 hts gX1_overlapping_X7_at_n43 rfl rfl rfl (zK_nest hK 12 rfl) (hts _ (List.mem_of_getElem? (i := 5) rfl)) (by decide +kernel) ⟨Nat.le_of_ble_eq_true rfl, Nat.le_of_ble_eq_true rfl⟩) (hts _ (List.mem_of_getElem? (i := 4) rfl)) zs_ar hK (zAr_of (zK_int hK) (hP 15 (by decide))) rfl hl.1 rfl (Nat.le_of_ble_eq_true rfl) dX1_overlapping_18 ⟨Nat.le_of_ble_eq_true rfl, Nat.le_of_ble_eq_true rfl⟩ (fun r_18 hr_18 => ?_)
    subst hr_18
    refine lv_iload_n (pc := 21) hx hb dX1_overlapping_21 rfl (lv_at hl 1 rfl) ?_
    refine zr_icmp_ne (pc := 22) (tgt := 53) hx hb dX1_overlapping_22 (by decide) (by omega) (by omega) (fun c_22 => ?_) (fun c_22 => ?_)
    · refine zr_iinc (pc := 53) (d := ((i : Int)) + 1) (lv' := [(4, .int (zI (((i : Int)) + 1))), (0, .ref (ad 3)), (1, .int (zI (c))), (2, .int (zI (d))), (3, .int (zI (n)))]) hx hb dX1_overlapping_53 hl (k := 4) rfl rfl (by decide) rfl (fun ls hl => ?_)
      refine lv_goto (pc := 56) (tgt := 3) hx hb dX1_overlapping_56 (by decide) ?_
      exact ih_3 (i + 1) (⟨by omega, fa_s h_n (fun q => by first | exact c_22 q.1 | exact absurd q.2.1 (by omega) | exact absurd q.2.2 (by omega))⟩) (by omega) ls (lv_sub hl [1, 2, 3, 4, 0] rfl)
    · refine lv_aload_n (pc := 25) hx hb dX1_overlapping_25 rfl (lv_at hl 0 rfl) ?_
      refine zr_get (pc := 26) S hK (hP 3 (by decide)) rfl i_X1 2 (by decide) (List.mem_of_getElem? (i := 3) rfl) rfl dX1_overlapping_26 ?_
      refine lv_iload (pc := 29) hx hb dX1_overlapping_29 (lv_at hl 4 rfl) ?_
      refine zr_ni (pc := 31) (As := [.ref (ad 16), .int (zI ((i : Int)))]) (rest := []) S (ct_X7_at l D cI cT (ad 16) 24 _ ((i : Int)) (gH g i 1) (by decide) (by omega) (by omega) (rl_h1 hR (by omega) (by omega)) (by omega)) (va_cnB 2 hts gX1_overlapping_X7_at_n43 rfl rfl rfl (zK_nest hK 12 rfl) (hts _ (List.mem_of_getElem? (i := 5) rfl)) (by decide +kernel) ⟨Nat.le_of_ble_eq_true rfl, Nat.le_of_ble_eq_true rfl⟩) (hts _ (List.mem_of_getElem? (i := 4) rfl)) zs_ar hK (zAr_of (zK_int hK) (hP 16 (by decide))) rfl hl.1 rfl (Nat.le_of_ble_eq_true rfl) dX1_overlapping_31 ⟨Nat.le_of_ble_eq_true rfl, Nat.le_of_ble_eq_true rfl⟩ (fun r_31 hr_31 => ?_)
      subst hr_31
      refine lv_iload_n (pc := 34) hx hb dX1_overlapping_34 rfl (lv_at hl 2 rfl) ?_
      refine lv_iload_n (pc := 35) hx hb dX1_overlapping_35 rfl (lv_at hl 3 rfl) ?_
      refine zr_iadd (pc := 36) (d := d + n) hx hb dX1_overlapping_36 rfl ?_
      refine zr_icmp_ge (pc := 37) (tgt := 53) hx hb dX1_overlapping_37 (by decide) (by omega) (by omega) (fun c_37 => ?_) (fun c_37 => ?_)
      · refine zr_iinc (pc := 53) (d := ((i : Int)) + 1) (lv' := [(4, .int (zI (((i : Int)) + 1))), (0, .ref (ad 3)), (1, .int (zI (c))), (2, .int (zI (d))), (3, .int (zI (n)))]) hx hb dX1_overlapping_53 hl (k := 4) rfl rfl (by decide) rfl (fun ls hl => ?_)
        refine lv_goto (pc := 56) (tgt := 3) hx hb dX1_overlapping_56 (by decide) ?_
        exact ih_3 (i + 1) (⟨by omega, fa_s h_n (fun q => by first | exact c_22 q.1 | exact absurd q.2.1 (by omega) | exact absurd q.2.2 (by omega))⟩) (by omega) ls (lv_sub hl [1, 2, 3, 4, 0] rfl)
      · refine lv_iload_n (pc := 40) hx hb dX1_overlapping_40 rfl (lv_at hl 2 rfl) ?_
        refine lv_aload_n (pc := 41) hx hb dX1_overlapping_41 rfl (lv_at hl 0 rfl) ?_
        refine lv_iload (pc := 42) hx hb dX1_overlapping_42 (lv_at hl 4 rfl) ?_
        refine zr_vi (pc := 44) (As := [.int (zI ((i : Int)))]) (rest := [.int (zI (d))]) S (ct_X1_dayAfter l D cI cT ad σ g hR hI ((i : Int)) (by omega) (by omega)) (cwV 1 hts gX1_overlapping_X1_dayAfter rfl rfl rfl (by decide +kernel) ⟨Nat.le_of_ble_eq_true rfl, Nat.le_of_ble_eq_true rfl⟩) zs0 hK hP (zr_recv hK (hP 3 (by decide)) rfl) rfl hl.1 rfl (Nat.le_of_ble_eq_true rfl) dX1_overlapping_44 ⟨Nat.le_of_ble_eq_true rfl, Nat.le_of_ble_eq_true rfl⟩ (fun r_44 hr_44 => ?_)
        subst hr_44
        refine zr_icmp_ge (pc := 47) (tgt := 53) hx hb dX1_overlapping_47 (by decide) (by omega) (by omega) (fun c_47 => ?_) (fun c_47 => ?_)
        · refine zr_iinc (pc := 53) (d := ((i : Int)) + 1) (lv' := [(4, .int (zI (((i : Int)) + 1))), (0, .ref (ad 3)), (1, .int (zI (c))), (2, .int (zI (d))), (3, .int (zI (n)))]) hx hb dX1_overlapping_53 hl (k := 4) rfl rfl (by decide) rfl (fun ls hl => ?_)
          refine lv_goto (pc := 56) (tgt := 3) hx hb dX1_overlapping_56 (by decide) ?_
          exact ih_3 (i + 1) (⟨by omega, fa_s h_n (fun q => by first | exact c_22 q.1 | exact absurd q.2.1 (by omega) | exact absurd q.2.2 (by omega))⟩) (by omega) ls (lv_sub hl [1, 2, 3, 4, 0] rfl)
        · refine lv_iload (pc := 50) hx hb dX1_overlapping_50 (lv_at hl 4 rfl) ?_
          exact W.iret (v := zI ((i : Int))) hx hb hr (fun tz ht hW => ⟨_, rfl, Or.inr ⟨i, by omega, by omega, ⟨c_22, by omega, by omega⟩, rfl⟩, ht⟩) (fun _ h => by cases h) dX1_overlapping_52
set_option maxHeartbeats 4000000 in
set_option maxRecDepth 100000 in
theorem ct_X1_hiresOf (l : Launch) (D : va_G) (cI cT : ClassId) (ad : Nat → Nat) (σ : Nat → Int → Int) (g : Int → Int) (hR : Rel σ g) (hI : Inv g) (c : Int) (c0 : -1 ≤ c) (c1 : c ≤ 100) : zMr l yX1_hiresOf wsX1_hiresOf ({ frames := 1, cells := 0, slots := 0, locals := 21 }) D cI cT [.ref (ad 3), .int (zI (c))] (fun _ H => zW D ad 20 (sC cI ad σ) H) (fun r => r = zI (hrs g c)) := by
  refine Met.ofW (cc := cX1_hiresOf) (maxL := 4) (ret := (some .int)) (by decide) rfl ?_
  intro p_ e_ s m_ args below meth c_ s₁ B hml hv
  obtain ⟨rfl, hK, hF⟩ := hv
  have hx := B.exec
  have hb := B.bytes
  have hr := B.returns
  have hts := atoms_spec (ws := wsX1_hiresOf) B.pre
  have hown : s.vm.findClass RX1 = some m_.cls := findClass_of_methodNamed B.named
  have hlocks := B.notSynchronized
  have S : CallFix p_ m_ c_ cX1_hiresOf 4 s _ wsX1_hiresOf RX1 := ⟨hx, hb, hml, hown, hts⟩
  have i_X1 : ∀ w ∈ u_ws RX1 TX1 6, w ∈ wsX1_hiresOf := fun _ h => List.mem_cons_of_mem _ (List.mem_append_right _ h)
  have hP := hF
  have hnH := iv_nH hI
  have hnC := iv_nC hI
  have hl := lv_entry ([.ref (ad 3), .int (zI (c))]) (n := 4) (Nat.le_of_ble_eq_true rfl)
  rw [lg_entry_eq]
  generalize (lg_sl ([.ref (ad 3), .int (zI (c))]) ++ List.replicate (4 - (lg_sl ([.ref (ad 3), .int (zI (c))])).length) Slot.unset).toArray = ls at hl ⊢
  have hl : lv_has ls 4 [(0, .ref (ad 3)), (1, .int (zI (c)))] := hl
  refine lv_iconst (pc := 0) (v := zI 0) hx hb dX1_hiresOf_0 rfl ?_
  refine lv_istore_n (pc := 1) (lv' := [(2, .int (zI (0))), (0, .ref (ad 3)), (1, .int (zI (c)))]) hx hb dX1_hiresOf_1 rfl hl (by decide) rfl (fun ls hl => ?_)
  refine lv_iconst (pc := 2) (v := zI 0) hx hb dX1_hiresOf_2 rfl ?_
  refine lv_istore_n (pc := 3) (lv' := [(3, .int (zI (0))), (2, .int (zI (0))), (0, .ref (ad 3)), (1, .int (zI (c)))]) hx hb dX1_hiresOf_3 rfl hl (by decide) rfl (fun ls hl => ?_)
  refine zr_loop2 (fun (i : Nat) (x : Int) => ((i : Int) ≤ g 2) ∧ (x = sm (fun h => ti (gH g h 0 = c)) i)) (fun (i : Nat) (x : Int) => (g 2 : Int).toNat - i) (fun (i : Nat) (x : Int) => [(0, .ref (ad 3)), (1, .int (zI (c))), (2, .int (zI (x))), (3, .int (zI ((i : Int))))]) ?_ (0) (0) (⟨by omega, by rw [sm_0]⟩) (lv_sub hl [2, 3, 1, 0] rfl)
  intro i x hinv ih_4 ls hl
  obtain ⟨h_i, h_x⟩ := hinv
  refine lv_iload_n (pc := 4) hx hb dX1_hiresOf_4 rfl (lv_at hl 3 rfl) ?_
  refine lv_aload_n (pc := 5) hx hb dX1_hiresOf_5 rfl (lv_at hl 0 rfl) ?_
  refine zr_get (pc := 6) S hK (hP 3 (by decide)) rfl i_X1 0 (by decide) (List.mem_of_getElem? (i := 1) rfl) rfl dX1_hiresOf_6 ?_
  refine zr_top (b := g 2) (rl_nH hR) ?_
  refine zr_icmp_ge (pc := 9) (tgt := 33) hx hb dX1_hiresOf_9 (by decide) (by omega) (by omega) (fun c_9 => ?_) (fun c_9 => ?_)
  · refine lv_iload_n (pc := 33) hx hb dX1_hiresOf_33 rfl (lv_at hl 2 rfl) ?_
    exact W.iret (v := zI (x)) hx hb hr (fun tz ht hW => ⟨_, rfl, congrArg zI (by rw [h_x, show i = (g 2).toNat by omega, hrs]), ht⟩) (fun _ h => by cases h) dX1_hiresOf_34
  · have hh := iv_hi hI (h := (i : Int)) (by omega) (by omega)
    refine lv_aload_n (pc := 12) hx hb dX1_hiresOf_12 rfl (lv_at hl 0 rfl) ?_
    refine zr_get (pc := 13) S hK (hP 3 (by decide)) rfl i_X1 1 (by decide) (List.mem_of_getElem? (i := 2) rfl) rfl dX1_hiresOf_13 ?_
    refine lv_iload_n (pc := 16) hx hb dX1_hiresOf_16 rfl (lv_at hl 3 rfl) ?_
    refine zr_ni (pc := 17) (As := [.ref (ad 15), .int (zI ((i : Int)))]) (rest := []) S (ct_X7_at l D cI cT (ad 15) 24 _ ((i : Int)) (gH g i 0) (by decide) (by omega) (by omega) (rl_h0 hR (by omega) (by omega)) (by omega)) (va_cnB 2 hts gX1_hiresOf_X7_at_n43 rfl rfl rfl (zK_nest hK 12 rfl) (hts _ (List.mem_of_getElem? (i := 4) rfl)) (by decide +kernel) ⟨Nat.le_of_ble_eq_true rfl, Nat.le_of_ble_eq_true rfl⟩) (hts _ (List.mem_of_getElem? (i := 3) rfl)) zs_ar hK (zAr_of (zK_int hK) (hP 15 (by decide))) rfl hl.1 rfl (Nat.le_of_ble_eq_true rfl) dX1_hiresOf_17 ⟨Nat.le_of_ble_eq_true rfl, Nat.le_of_ble_eq_true rfl⟩ (fun r_17 hr_17 => ?_)
    subst hr_17
    refine lv_iload_n (pc := 20) hx hb dX1_hiresOf_20 rfl (lv_at hl 1 rfl) ?_
    refine zr_icmp_ne (pc := 21) (tgt := 27) hx hb dX1_hiresOf_21 (by decide) (by omega) (by omega) (fun c_21 => ?_) (fun c_21 => ?_)
    · refine zr_iinc (pc := 27) (d := ((i : Int)) + 1) (lv' := [(3, .int (zI (((i : Int)) + 1))), (0, .ref (ad 3)), (1, .int (zI (c))), (2, .int (zI (x)))]) hx hb dX1_hiresOf_27 hl (k := 3) rfl rfl (by decide) rfl (fun ls hl => ?_)
      refine lv_goto (pc := 30) (tgt := 4) hx hb dX1_hiresOf_30 (by decide) ?_
      exact ih_4 (i + 1) (x) (⟨by omega, by rw [sm_s]; first | (rw [ti_t c_21]; omega) | (rw [ti_f c_21]; omega)⟩) (by omega) ls (lv_sub hl [1, 2, 3, 0] rfl)
    · refine zr_iinc (pc := 24) (d := x + 1) (lv' := [(2, .int (zI (x + 1))), (0, .ref (ad 3)), (1, .int (zI (c))), (3, .int (zI ((i : Int))))]) hx hb dX1_hiresOf_24 hl (k := 2) rfl rfl (by decide) rfl (fun ls hl => ?_)
      refine zr_iinc (pc := 27) (d := ((i : Int)) + 1) (lv' := [(3, .int (zI (((i : Int)) + 1))), (2, .int (zI (x + 1))), (0, .ref (ad 3)), (1, .int (zI (c)))]) hx hb dX1_hiresOf_27 hl (k := 3) rfl rfl (by decide) rfl (fun ls hl => ?_)
      refine lv_goto (pc := 30) (tgt := 4) hx hb dX1_hiresOf_30 (by decide) ?_
      exact ih_4 (i + 1) ((x + 1)) (⟨by omega, by rw [sm_s]; first | (rw [ti_t c_21]; omega) | (rw [ti_f c_21]; omega)⟩) (by omega) ls (lv_sub hl [2, 3, 1, 0] rfl)
set_option maxHeartbeats 4000000 in
set_option maxRecDepth 100000 in
theorem ct_X1_canEnd (l : Launch) (D : va_G) (cI cT : ClassId) (ad : Nat → Nat) (σ : Nat → Int → Int) (g : Int → Int) (hR : Rel σ g) (hI : Inv g) (h : Int) (t : Int) (h0 : 0 ≤ h) (h1 : h < g 2) (t0 : 0 ≤ t) (t1 : t ≤ 300) : zMr l yX1_canEnd wsX1_canEnd ({ frames := 2, cells := 0, slots := 0, locals := 42 }) D cI cT [.ref (ad 3), .int (zI (h)), .int (zI (t))] (fun _ H => zW D ad 20 (sC cI ad σ) H) (fun r => bz (gH g h 1 ≤ t ∧ t + 1 < gH g h 1 + gH g h 2) r) := by
  refine Met.ofW (cc := cX1_canEnd) (maxL := 3) (ret := (some .boolean)) (by decide) rfl ?_
  intro p_ e_ s m_ args below meth c_ s₁ B hml hv
  obtain ⟨rfl, hK, hF⟩ := hv
  have hx := B.exec
  have hb := B.bytes
  have hr := B.returns
  have hts := atoms_spec (ws := wsX1_canEnd) B.pre
  have hown : s.vm.findClass RX1 = some m_.cls := findClass_of_methodNamed B.named
  have hlocks := B.notSynchronized
  have S : CallFix p_ m_ c_ cX1_canEnd 3 s _ wsX1_canEnd RX1 := ⟨hx, hb, hml, hown, hts⟩
  have i_X1 : ∀ w ∈ u_ws RX1 TX1 6, w ∈ wsX1_canEnd := fun _ h => List.mem_cons_of_mem _ (List.mem_append_right _ h)
  have hP := hF
  have hnH := iv_nH hI
  have hh := iv_hi hI h0 h1
  have hl := lv_entry ([.ref (ad 3), .int (zI (h)), .int (zI (t))]) (n := 3) (Nat.le_of_ble_eq_true rfl)
  rw [lg_entry_eq]
  generalize (lg_sl ([.ref (ad 3), .int (zI (h)), .int (zI (t))]) ++ List.replicate (3 - (lg_sl ([.ref (ad 3), .int (zI (h)), .int (zI (t))])).length) Slot.unset).toArray = ls at hl ⊢
  have hl : lv_has ls 3 [(0, .ref (ad 3)), (1, .int (zI (h))), (2, .int (zI (t)))] := hl
  refine lv_aload_n (pc := 0) hx hb dX1_canEnd_0 rfl (lv_at hl 0 rfl) ?_
  refine zr_get (pc := 1) S hK (hP 3 (by decide)) rfl i_X1 2 (by decide) (List.mem_of_getElem? (i := 1) rfl) rfl dX1_canEnd_1 ?_
  refine lv_iload_n (pc := 4) hx hb dX1_canEnd_4 rfl (lv_at hl 1 rfl) ?_
  refine zr_ni (pc := 5) (As := [.ref (ad 16), .int (zI (h))]) (rest := []) S (ct_X7_at l D cI cT (ad 16) 24 _ h (gH g h 1) (by decide) (by omega) (by omega) (rl_h1 hR h0 h1) (by omega)) (va_cnB 2 hts gX1_canEnd_X7_at_n43 rfl rfl rfl (zK_nest hK 12 rfl) (hts _ (List.mem_of_getElem? (i := 3) rfl)) (by decide +kernel) ⟨Nat.le_of_ble_eq_true rfl, Nat.le_of_ble_eq_true rfl⟩) (hts _ (List.mem_of_getElem? (i := 2) rfl)) zs_ar hK (zAr_of (zK_int hK) (hP 16 (by decide))) rfl hl.1 rfl (Nat.le_of_ble_eq_true rfl) dX1_canEnd_5 ⟨Nat.le_of_ble_eq_true rfl, Nat.le_of_ble_eq_true rfl⟩ (fun r_5 hr_5 => ?_)
  subst hr_5
  refine lv_iload_n (pc := 8) hx hb dX1_canEnd_8 rfl (lv_at hl 2 rfl) ?_
  refine zr_icmp_gt (pc := 9) (tgt := 27) hx hb dX1_canEnd_9 (by decide) (by omega) (by omega) (fun c_9 => ?_) (fun c_9 => ?_)
  · refine lv_iconst (pc := 27) (v := zI 0) hx hb dX1_canEnd_27 rfl ?_
    exact W.zret (ty := .boolean) (v := zI (0)) hx hb hr (by first | rfl | decide) (fun tz ht hW => ⟨_, rfl, bz_f (by omega), ht⟩) (fun _ h => by cases h) dX1_canEnd_28
  · refine lv_iload_n (pc := 12) hx hb dX1_canEnd_12 rfl (lv_at hl 2 rfl) ?_
    refine lv_iconst (pc := 13) (v := zI 1) hx hb dX1_canEnd_13 rfl ?_
    refine zr_iadd (pc := 14) (d := t + 1) hx hb dX1_canEnd_14 rfl ?_
    refine lv_aload_n (pc := 15) hx hb dX1_canEnd_15 rfl (lv_at hl 0 rfl) ?_
    refine lv_iload_n (pc := 16) hx hb dX1_canEnd_16 rfl (lv_at hl 1 rfl) ?_
    refine zr_vi (pc := 17) (As := [.int (zI (h))]) (rest := [.int (zI (t + 1))]) S (ct_X1_dayAfter l D cI cT ad σ g hR hI h (by omega) (by omega)) (cwV 1 hts gX1_canEnd_X1_dayAfter rfl rfl rfl (by decide +kernel) ⟨Nat.le_of_ble_eq_true rfl, Nat.le_of_ble_eq_true rfl⟩) zs0 hK hP (zr_recv hK (hP 3 (by decide)) rfl) rfl hl.1 rfl (Nat.le_of_ble_eq_true rfl) dX1_canEnd_17 ⟨Nat.le_of_ble_eq_true rfl, Nat.le_of_ble_eq_true rfl⟩ (fun r_17 hr_17 => ?_)
    subst hr_17
    refine zr_icmp_ge (pc := 20) (tgt := 27) hx hb dX1_canEnd_20 (by decide) (by omega) (by omega) (fun c_20 => ?_) (fun c_20 => ?_)
    · refine lv_iconst (pc := 27) (v := zI 0) hx hb dX1_canEnd_27 rfl ?_
      exact W.zret (ty := .boolean) (v := zI (0)) hx hb hr (by first | rfl | decide) (fun tz ht hW => ⟨_, rfl, bz_f (by omega), ht⟩) (fun _ h => by cases h) dX1_canEnd_28
    · refine lv_iconst (pc := 23) (v := zI 1) hx hb dX1_canEnd_23 rfl ?_
      refine lv_goto (pc := 24) (tgt := 28) hx hb dX1_canEnd_24 (by decide) ?_
      exact W.zret (ty := .boolean) (v := zI (1)) hx hb hr (by first | rfl | decide) (fun tz ht hW => ⟨_, rfl, bz_t (by omega), ht⟩) (fun _ h => by cases h) dX1_canEnd_28
set_option maxHeartbeats 4000000 in
set_option maxRecDepth 100000 in
theorem ct_X1_firstFree (l : Launch) (D : va_G) (cI cT : ClassId) (ad : Nat → Nat) (σ : Nat → Int → Int) (g : Int → Int) (hR : Rel σ g) (hI : Inv g) (c : Int) (n : Int) (c0 : -1 ≤ c) (c1 : c ≤ 100) (n0 : 1 ≤ n) (n1 : n ≤ 60) : zMr l yX1_firstFree wsX1_firstFree ({ frames := 3, cells := 0, slots := 0, locals := 66 }) D cI cT [.ref (ad 3), .int (zI (c)), .int (zI (g 3)), .int (zI (n))] (fun _ H => zW D ad 20 (sC cI ad σ) H) (fun r => r = zI (ffd g c n)) := by
  refine Met.ofW (cc := cX1_firstFree) (maxL := 7) (ret := (some .int)) (by decide) rfl ?_
  intro p_ e_ s m_ args below meth c_ s₁ B hml hv
  obtain ⟨rfl, hK, hF⟩ := hv
  have hx := B.exec
  have hb := B.bytes
  have hr := B.returns
  have hts := atoms_spec (ws := wsX1_firstFree) B.pre
  have hown : s.vm.findClass RX1 = some m_.cls := findClass_of_methodNamed B.named
  have hlocks := B.notSynchronized
  have S : CallFix p_ m_ c_ cX1_firstFree 7 s _ wsX1_firstFree RX1 := ⟨hx, hb, hml, hown, hts⟩
  have hP := hF
  have hnH := iv_nH hI
  have hnC := iv_nC hI
  have hto := iv_to hI
  have hl := lv_entry ([.ref (ad 3), .int (zI (c)), .int (zI (g 3)), .int (zI (n))]) (n := 7) (Nat.le_of_ble_eq_true rfl)
  rw [lg_entry_eq]
  generalize (lg_sl ([.ref (ad 3), .int (zI (c)), .int (zI (g 3)), .int (zI (n))]) ++ List.replicate (7 - (lg_sl ([.ref (ad 3), .int (zI (c)), .int (zI (g 3)), .int (zI (n))])).length) Slot.unset).toArray = ls at hl ⊢
  have hl : lv_has ls 7 [(0, .ref (ad 3)), (1, .int (zI (c))), (2, .int (zI (g 3))), (3, .int (zI (n)))] := hl
  refine lv_iload_n (pc := 0) hx hb dX1_firstFree_0 rfl (lv_at hl 2 rfl) ?_
  refine lv_istore (pc := 1) (lv' := [(4, .int (zI (g 3))), (0, .ref (ad 3)), (1, .int (zI (c))), (2, .int (zI (g 3))), (3, .int (zI (n)))]) hx hb dX1_firstFree_1 hl (by decide) rfl (fun ls hl => ?_)
  refine lv_iconst (pc := 3) (v := zI 0) hx hb dX1_firstFree_3 rfl ?_
  refine lv_istore (pc := 4) (lv' := [(5, .int (zI (0))), (4, .int (zI (g 3))), (0, .ref (ad 3)), (1, .int (zI (c))), (2, .int (zI (g 3))), (3, .int (zI (n)))]) hx hb dX1_firstFree_4 hl (by decide) rfl (fun ls hl => ?_)
  refine zr_loop2 (fun (t : Nat) (d : Int) => ((t : Int) + ffc g c d ≤ 24) ∧ (g 3 ≤ d ∧ d ≤ 360) ∧ (∀ x : Int, g 3 ≤ x → x < d → awy g c x n)) (fun (t : Nat) (d : Int) => 25 - t) (fun (t : Nat) (d : Int) => [(0, .ref (ad 3)), (1, .int (zI (c))), (2, .int (zI (g 3))), (3, .int (zI (n))), (4, .int (zI (d))), (5, .int (zI ((t : Int))))]) ?_ (0) (g 3) (⟨by have := ffc_bd hI c (g 3); omega, by omega, fun x x0 x1 => absurd x1 (by omega)⟩) (lv_sub hl [2, 3, 4, 5, 1, 0] rfl)
  intro t d hinv ih_6 ls hl
  obtain ⟨h_t, h_d, h_w⟩ := hinv
  have hfb := ffc_bd hI c d
  refine lv_iload (pc := 6) hx hb dX1_firstFree_6 (lv_at hl 5 rfl) ?_
  refine lv_bipush (pc := 8) (v := zI 24) hx hb dX1_firstFree_8 zc_bipush_24 ?_
  refine zr_icmp_gt (pc := 10) (tgt := 45) hx hb dX1_firstFree_10 (by decide) (by omega) (by decide) (fun c_10 => ?_) (fun c_10 => ?_)
  · refine lv_iload (pc := 45) hx hb dX1_firstFree_45 (lv_at hl 4 rfl) ?_
    exact W.iret (v := zI (d)) hx hb hr (fun tz ht hW => ⟨_, rfl, absurd (ffc_bd hI c d).1 (by omega), ht⟩) (fun _ h => by cases h) dX1_firstFree_47
  · refine lv_aload_n (pc := 13) hx hb dX1_firstFree_13 rfl (lv_at hl 0 rfl) ?_
    refine lv_iload_n (pc := 14) hx hb dX1_firstFree_14 rfl (lv_at hl 1 rfl) ?_
    refine lv_iload (pc := 15) hx hb dX1_firstFree_15 (lv_at hl 4 rfl) ?_
    refine lv_iload_n (pc := 17) hx hb dX1_firstFree_17 rfl (lv_at hl 3 rfl) ?_
    refine zr_vi (pc := 18) (As := [.int (zI (c)), .int (zI (d)), .int (zI (n))]) (rest := []) S (ct_X1_overlapping l D cI cT ad σ g hR hI c d n (by omega) (by omega) (by omega) (by omega) (by omega) (by omega)) (cwV 3 hts gX1_firstFree_X1_overlapping rfl rfl rfl (by decide +kernel) ⟨Nat.le_of_ble_eq_true rfl, Nat.le_of_ble_eq_true rfl⟩) zs0 hK hP (zr_recv hK (hP 3 (by decide)) rfl) rfl hl.1 rfl (Nat.le_of_ble_eq_true rfl) dX1_firstFree_18 ⟨Nat.le_of_ble_eq_true rfl, Nat.le_of_ble_eq_true rfl⟩ (fun r_18 hr_18 => ?_)
    rcases hr_18 with ⟨rfl, hn_18⟩ | ⟨h_18, hh_18, hi_18, ho_18, rfl⟩
    · refine lv_istore (pc := 21) (lv' := [(6, .int (zI ((-1)))), (0, .ref (ad 3)), (1, .int (zI (c))), (2, .int (zI (g 3))), (3, .int (zI (n))), (4, .int (zI (d))), (5, .int (zI ((t : Int))))]) hx hb dX1_firstFree_21 hl (by decide) rfl (fun ls hl => ?_)
      refine lv_iload (pc := 23) hx hb dX1_firstFree_23 (lv_at hl 0 rfl) ?_
      refine zr_if_ge (pc := 25) (tgt := 31) hx hb dX1_firstFree_25 (by decide) (by decide) (fun z => absurd z (by decide)) (fun _ => ?_)
      refine lv_iload (pc := 28) hx hb dX1_firstFree_28 (lv_at hl 5 rfl) ?_
      exact W.iret (v := zI (d)) hx hb hr (fun tz ht hW => ⟨_, rfl, congrArg zI (ffd_of ⟨h_d.1, hn_18, h_w⟩).symm, ht⟩) (fun _ h => by cases h) dX1_firstFree_30
    · refine lv_istore (pc := 21) (lv' := [(6, .int (zI (h_18))), (0, .ref (ad 3)), (1, .int (zI (c))), (2, .int (zI (g 3))), (3, .int (zI (n))), (4, .int (zI (d))), (5, .int (zI ((t : Int))))]) hx hb dX1_firstFree_21 hl (by decide) rfl (fun ls hl => ?_)
      refine lv_iload (pc := 23) hx hb dX1_firstFree_23 (lv_at hl 0 rfl) ?_
      refine zr_if_ge (pc := 25) (tgt := 31) hx hb dX1_firstFree_25 (by decide) (by omega) (fun c_25 => ?_) (fun c_25 => ?_)
      · have hdec := ffc_dec hh_18 hi_18 ho_18
        have hv := iv_hi hI hh_18 hi_18
        have ho2 := ho_18.2.2
        refine lv_aload_n (pc := 31) hx hb dX1_firstFree_31 rfl (lv_at hl 1 rfl) ?_
        refine lv_iload (pc := 32) hx hb dX1_firstFree_32 (lv_at hl 0 rfl) ?_
        refine zr_vi (pc := 34) (As := [.int (zI (h_18))]) (rest := []) S (ct_X1_dayAfter l D cI cT ad σ g hR hI h_18 (by omega) (by omega)) (cwV 1 hts gX1_firstFree_X1_dayAfter rfl rfl rfl (by decide +kernel) ⟨Nat.le_of_ble_eq_true rfl, Nat.le_of_ble_eq_true rfl⟩) zs0 hK hP (zr_recv hK (hP 3 (by decide)) rfl) rfl hl.1 rfl (Nat.le_of_ble_eq_true rfl) dX1_firstFree_34 ⟨Nat.le_of_ble_eq_true rfl, Nat.le_of_ble_eq_true rfl⟩ (fun r_34 hr_34 => ?_)
        subst hr_34
        refine lv_istore (pc := 37) (lv' := [(4, .int (zI (gH g h_18 1 + gH g h_18 2))), (6, .int (zI (h_18))), (0, .ref (ad 3)), (1, .int (zI (c))), (2, .int (zI (g 3))), (3, .int (zI (n))), (5, .int (zI ((t : Int))))]) hx hb dX1_firstFree_37 hl (by decide) rfl (fun ls hl => ?_)
        refine zr_iinc (pc := 39) (d := ((t : Int)) + 1) (lv' := [(5, .int (zI (((t : Int)) + 1))), (4, .int (zI (gH g h_18 1 + gH g h_18 2))), (6, .int (zI (h_18))), (0, .ref (ad 3)), (1, .int (zI (c))), (2, .int (zI (g 3))), (3, .int (zI (n)))]) hx hb dX1_firstFree_39 hl (k := 6) rfl rfl (by decide) rfl (fun ls hl => ?_)
        refine lv_goto (pc := 42) (tgt := 6) hx hb dX1_firstFree_42 (by decide) ?_
        exact ih_6 (t + 1) (gH g h_18 1 + gH g h_18 2) (⟨by omega, by omega, fun x x0 x1 => by rcases Int.lt_or_le x d with q | q <;> first | exact h_w x x0 q | exact awy_step hh_18 hi_18 ho_18 q x1⟩) (by omega) ls (lv_sub hl [3, 4, 5, 6, 1, 0] rfl)
      · exact absurd c_25 (by omega)
