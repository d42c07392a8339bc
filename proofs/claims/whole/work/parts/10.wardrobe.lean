set_option maxHeartbeats 4000000 in
set_option maxRecDepth 100000 in
theorem ct_X7_isWithin (l : Launch) (D : va_G) (cI cT : ClassId) (a : Int) (b : Int) (d : Int) (r_a : -2147483648 ≤ a ∧ a ≤ 2147483647) (r_b : -2147483648 ≤ b ∧ b ≤ 2147483647) (r_d : -2147483648 ≤ d ∧ d ≤ 2147483647) : zMr l yX7_isWithin wsX7_isWithin ({ frames := 0, cells := 0, slots := 0, locals := 0 }) D cI cT [.int (zI (a)), .int (zI (b)), .int (zI (d))] (fun _ _ => True) (fun r => bz (b ≤ a ∧ a ≤ d) r) := by
  refine Met.ofW (cc := cX7_isWithin) (maxL := 3) (ret := (some .boolean)) (by decide) rfl ?_
  intro p_ e_ s m_ args below meth c_ s₁ B hml hv
  obtain ⟨rfl, hK, hF⟩ := hv
  have hx := B.exec
  have hb := B.bytes
  have hr := B.returns
  have hts := atoms_spec (ws := wsX7_isWithin) B.pre
  have hown : s.vm.findClass RX7 = some m_.cls := findClass_of_methodNamed B.named
  have hlocks := B.notSynchronized
  have S : CallFix p_ m_ c_ cX7_isWithin 3 s _ wsX7_isWithin RX7 := ⟨hx, hb, hml, hown, hts⟩
  have hl := lv_entry ([.int (zI (a)), .int (zI (b)), .int (zI (d))]) (n := 3) (Nat.le_of_ble_eq_true rfl)
  rw [lg_entry_eq]
  generalize (lg_sl ([.int (zI (a)), .int (zI (b)), .int (zI (d))]) ++ List.replicate (3 - (lg_sl ([.int (zI (a)), .int (zI (b)), .int (zI (d))])).length) Slot.unset).toArray = ls at hl ⊢
  have hl : lv_has ls 3 [(0, .int (zI (a))), (1, .int (zI (b))), (2, .int (zI (d)))] := hl
  refine lv_iload_n (pc := 0) hx hb dX7_isWithin_0 rfl (lv_at hl 0 rfl) ?_
  refine lv_iload_n (pc := 1) hx hb dX7_isWithin_1 rfl (lv_at hl 1 rfl) ?_
  refine zr_icmp_lt (pc := 2) (tgt := 14) hx hb dX7_isWithin_2 (by decide) (by omega) (by omega) (fun c_2 => ?_) (fun c_2 => ?_)
  · refine lv_iconst (pc := 14) (v := zI 0) hx hb dX7_isWithin_14 rfl ?_
    exact W.zret (ty := .boolean) (v := zI (0)) hx hb hr (by first | rfl | decide) (fun t ht hW => ⟨_, rfl, bz_f (by omega), ht⟩) (fun _ h => by cases h) dX7_isWithin_15
  · refine lv_iload_n (pc := 5) hx hb dX7_isWithin_5 rfl (lv_at hl 0 rfl) ?_
    refine lv_iload_n (pc := 6) hx hb dX7_isWithin_6 rfl (lv_at hl 2 rfl) ?_
    refine zr_icmp_gt (pc := 7) (tgt := 14) hx hb dX7_isWithin_7 (by decide) (by omega) (by omega) (fun c_7 => ?_) (fun c_7 => ?_)
    · refine lv_iconst (pc := 14) (v := zI 0) hx hb dX7_isWithin_14 rfl ?_
      exact W.zret (ty := .boolean) (v := zI (0)) hx hb hr (by first | rfl | decide) (fun t ht hW => ⟨_, rfl, bz_f (by omega), ht⟩) (fun _ h => by cases h) dX7_isWithin_15
    · refine lv_iconst (pc := 10) (v := zI 1) hx hb dX7_isWithin_10 rfl ?_
      refine lv_goto (pc := 11) (tgt := 15) hx hb dX7_isWithin_11 (by decide) ?_
      exact W.zret (ty := .boolean) (v := zI (1)) hx hb hr (by first | rfl | decide) (fun t ht hW => ⟨_, rfl, bz_t (by omega), ht⟩) (fun _ h => by cases h) dX7_isWithin_15
set_option maxHeartbeats 4000000 in
set_option maxRecDepth 100000 in
theorem ct_X7_at (l : Launch) (D : va_G) (cI cT : ClassId) (q : Nat) (n : Nat) (f : Int → Int) (i v : Int) (hn : (n : Int) ≤ 2147483647) (h0 : 0 ≤ i) (h1 : i < (n : Int)) (hv : f i = v) (r_i : -2147483648 ≤ i ∧ i ≤ 2147483647) : zMr l yX7_at wsX7_at ({ frames := 0, cells := 0, slots := 0, locals := 0 }) D cI cT [.ref (q), .int (zI (i))] (fun U H => zAr n f q U H) (fun r => r = zI v) := by
  refine Met.ofW (cc := cX7_at) (maxL := 2) (ret := (some .int)) (by decide) rfl ?_
  intro p_ e_ s m_ args below meth c_ s₁ B hml hv
  obtain ⟨rfl, hK, hF⟩ := hv
  have hx := B.exec
  have hb := B.bytes
  have hr := B.returns
  have hts := atoms_spec (ws := wsX7_at) B.pre
  have hown : s.vm.findClass RX7 = some m_.cls := findClass_of_methodNamed B.named
  have hlocks := B.notSynchronized
  have S : CallFix p_ m_ c_ cX7_at 2 s _ wsX7_at RX7 := ⟨hx, hb, hml, hown, hts⟩
  have hl := lv_entry ([.ref (q), .int (zI (i))]) (n := 2) (Nat.le_of_ble_eq_true rfl)
  rw [lg_entry_eq]
  generalize (lg_sl ([.ref (q), .int (zI (i))]) ++ List.replicate (2 - (lg_sl ([.ref (q), .int (zI (i))])).length) Slot.unset).toArray = ls at hl ⊢
  have hl : lv_has ls 2 [(0, .ref (q)), (1, .int (zI (i)))] := hl
  refine lv_iload_n (pc := 0) hx hb dX7_at_0 rfl (lv_at hl 1 rfl) ?_
  refine zr_if_lt (pc := 1) (tgt := 16) hx hb dX7_at_1 (by decide) (by omega) (fun c_1 => ?_) (fun c_1 => ?_)
  · exact absurd c_1 (by omega)
  · refine lv_iload_n (pc := 4) hx hb dX7_at_4 rfl (lv_at hl 1 rfl) ?_
    refine lv_aload_n (pc := 5) hx hb dX7_at_5 rfl (lv_at hl 0 rfl) ?_
    refine zr_alen (pc := 6) (n := n) hx hb hF dX7_at_6 ?_
    refine zr_icmp_ge (pc := 7) (tgt := 16) hx hb dX7_at_7 (by decide) (by omega) (by omega) (fun c_7 => ?_) (fun c_7 => ?_)
    · exact absurd c_7 (by omega)
    · refine lv_aload_n (pc := 10) hx hb dX7_at_10 rfl (lv_at hl 0 rfl) ?_
      refine lv_iload_n (pc := 11) hx hb dX7_at_11 rfl (lv_at hl 1 rfl) ?_
      refine zr_ald (pc := 12) (n := n) hx hb hF (by omega) (by omega) hn dX7_at_12 ?_
      refine lv_goto (pc := 13) (tgt := 17) hx hb dX7_at_13 (by decide) ?_
      exact W.iret (v := zI (f i)) hx hb hr (fun t ht hW => ⟨_, rfl, congrArg zI (hv), ht⟩) (fun _ h => by cases h) dX7_at_17
set_option maxHeartbeats 4000000 in
set_option maxRecDepth 100000 in
theorem ct_X6_has (l : Launch) (D : va_G) (cI cT : ClassId) (ad : Nat → Nat) (σ : Nat → Int → Int) (g : Int → Int) (hR : Rel σ g) (hI : Inv g) (c : Int) (r_c : -2147483648 ≤ c ∧ c ≤ 2147483647) : zMr l yX6_has wsX6_has ({ frames := 0, cells := 0, slots := 0, locals := 0 }) D cI cT [.ref (ad 1), .int (zI (c))] (fun _ H => zW D ad 20 (sC cI ad σ) H) (fun r => bz (0 ≤ c ∧ c < g 0) r) := by
  refine Met.ofW (cc := cX6_has) (maxL := 2) (ret := (some .boolean)) (by decide) rfl ?_
  intro p_ e_ s m_ args below meth c_ s₁ B hml hv
  obtain ⟨rfl, hK, hF⟩ := hv
  have hx := B.exec
  have hb := B.bytes
  have hr := B.returns
  have hts := atoms_spec (ws := wsX6_has) B.pre
  have hown : s.vm.findClass RX6 = some m_.cls := findClass_of_methodNamed B.named
  have hlocks := B.notSynchronized
  have S : CallFix p_ m_ c_ cX6_has 2 s _ wsX6_has RX6 := ⟨hx, hb, hml, hown, hts⟩
  have i_X6 : ∀ w ∈ u_ws RX6 TX6 9, w ∈ wsX6_has := fun _ h => List.mem_cons_of_mem _ (List.mem_append_right _ h)
  have hP := hF
  have hnC := iv_nC hI
  have hl := lv_entry ([.ref (ad 1), .int (zI (c))]) (n := 2) (Nat.le_of_ble_eq_true rfl)
  rw [lg_entry_eq]
  generalize (lg_sl ([.ref (ad 1), .int (zI (c))]) ++ List.replicate (2 - (lg_sl ([.ref (ad 1), .int (zI (c))])).length) Slot.unset).toArray = ls at hl ⊢
  have hl : lv_has ls 2 [(0, .ref (ad 1)), (1, .int (zI (c)))] := hl
  refine lv_iload_n (pc := 0) hx hb dX6_has_0 rfl (lv_at hl 1 rfl) ?_
  refine zr_if_lt (pc := 1) (tgt := 16) hx hb dX6_has_1 (by decide) (by omega) (fun c_1 => ?_) (fun c_1 => ?_)
  · refine lv_iconst (pc := 16) (v := zI 0) hx hb dX6_has_16 rfl ?_
    exact W.zret (ty := .boolean) (v := zI (0)) hx hb hr (by first | rfl | decide) (fun t ht hW => ⟨_, rfl, bz_f (by omega), ht⟩) (fun _ h => by cases h) dX6_has_17
  · refine lv_iload_n (pc := 4) hx hb dX6_has_4 rfl (lv_at hl 1 rfl) ?_
    refine lv_aload_n (pc := 5) hx hb dX6_has_5 rfl (lv_at hl 0 rfl) ?_
    refine zr_get (pc := 6) S hK (hP 1 (by decide)) rfl i_X6 0 (by decide) (List.mem_of_getElem? (i := 1) rfl) rfl dX6_has_6 ?_
    refine zr_top (rl_nC hR) ?_
    refine zr_icmp_ge (pc := 9) (tgt := 16) hx hb dX6_has_9 (by decide) (by omega) (by omega) (fun c_9 => ?_) (fun c_9 => ?_)
    · refine lv_iconst (pc := 16) (v := zI 0) hx hb dX6_has_16 rfl ?_
      exact W.zret (ty := .boolean) (v := zI (0)) hx hb hr (by first | rfl | decide) (fun t ht hW => ⟨_, rfl, bz_f (by omega), ht⟩) (fun _ h => by cases h) dX6_has_17
    · refine lv_iconst (pc := 12) (v := zI 1) hx hb dX6_has_12 rfl ?_
      refine lv_goto (pc := 13) (tgt := 17) hx hb dX6_has_13 (by decide) ?_
      exact W.zret (ty := .boolean) (v := zI (1)) hx hb hr (by first | rfl | decide) (fun t ht hW => ⟨_, rfl, bz_t (by omega), ht⟩) (fun _ h => by cases h) dX6_has_17
set_option maxHeartbeats 4000000 in
set_option maxRecDepth 100000 in
theorem ct_X6_originalOf (l : Launch) (D : va_G) (cI cT : ClassId) (ad : Nat → Nat) (σ : Nat → Int → Int) (g : Int → Int) (hR : Rel σ g) (hI : Inv g) (c : Int) (m : Int) (h0 : 0 ≤ c) (h1 : c < g 0) (m0 : 0 ≤ m) (m1 : m < 3) : zMr l yX6_originalOf wsX6_originalOf ({ frames := 1, cells := 0, slots := 0, locals := 21 }) D cI cT [.ref (ad 1), .int (zI (c)), .int (zI (m))] (fun _ H => zW D ad 20 (sC cI ad σ) H) (fun r => r = zI (gC g c m)) := by
  refine Met.ofW (cc := cX6_originalOf) (maxL := 3) (ret := (some .int)) (by decide) rfl ?_
  intro p_ e_ s m_ args below meth c_ s₁ B hml hv
  obtain ⟨rfl, hK, hF⟩ := hv
  have hx := B.exec
  have hb := B.bytes
  have hr := B.returns
  have hts := atoms_spec (ws := wsX6_originalOf) B.pre
  have hown : s.vm.findClass RX6 = some m_.cls := findClass_of_methodNamed B.named
  have hlocks := B.notSynchronized
  have S : CallFix p_ m_ c_ cX6_originalOf 3 s _ wsX6_originalOf RX6 := ⟨hx, hb, hml, hown, hts⟩
  have i_X6 : ∀ w ∈ u_ws RX6 TX6 9, w ∈ wsX6_originalOf := fun _ h => List.mem_cons_of_mem _ (List.mem_append_right _ h)
  have hP := hF
  have hnC := iv_nC hI
  have hl := lv_entry ([.ref (ad 1), .int (zI (c)), .int (zI (m))]) (n := 3) (Nat.le_of_ble_eq_true rfl)
  rw [lg_entry_eq]
  generalize (lg_sl ([.ref (ad 1), .int (zI (c)), .int (zI (m))]) ++ List.replicate (3 - (lg_sl ([.ref (ad 1), .int (zI (c)), .int (zI (m))])).length) Slot.unset).toArray = ls at hl ⊢
  have hl : lv_has ls 3 [(0, .ref (ad 1)), (1, .int (zI (c))), (2, .int (zI (m)))] := hl
  refine lv_aload_n (pc := 0) hx hb dX6_originalOf_0 rfl (lv_at hl 0 rfl) ?_
  refine zr_get (pc := 1) S hK (hP 1 (by decide)) rfl i_X6 1 (by decide) (List.mem_of_getElem? (i := 1) rfl) rfl dX6_originalOf_1 ?_
  refine lv_iload_n (pc := 4) hx hb dX6_originalOf_4 rfl (lv_at hl 1 rfl) ?_
  refine lv_iconst (pc := 5) (v := zI 3) hx hb dX6_originalOf_5 rfl ?_
  refine zr_imul (pc := 6) (d := c * 3) hx hb dX6_originalOf_6 rfl ?_
  refine lv_iload_n (pc := 7) hx hb dX6_originalOf_7 rfl (lv_at hl 2 rfl) ?_
  refine zr_iadd (pc := 8) (d := (c * 3) + m) hx hb dX6_originalOf_8 rfl ?_
  refine zr_ni (pc := 9) (As := [.ref (ad 5), .int (zI ((c * 3) + m))]) (rest := []) S (ct_X7_at l D cI cT (ad 5) 48 _ ((c * 3) + m) (gC g c m) (by decide) (by omega) (by omega) (rl_or hR h0 h1 m0 m1) (by omega)) (va_cnB 2 hts gX6_originalOf_X7_at_n48 rfl rfl rfl (zK_nest hK 13 rfl) (hts _ (List.mem_of_getElem? (i := 3) rfl)) (by decide +kernel) ⟨Nat.le_of_ble_eq_true rfl, Nat.le_of_ble_eq_true rfl⟩) (hts _ (List.mem_of_getElem? (i := 2) rfl)) zs_ar hK (zAr_of (zK_int hK) (hP 5 (by decide))) rfl hl.1 rfl (Nat.le_of_ble_eq_true rfl) dX6_originalOf_9 ⟨Nat.le_of_ble_eq_true rfl, Nat.le_of_ble_eq_true rfl⟩ (fun r_9 hr_9 => ?_)
  subst hr_9
  exact W.iret (v := zI (gC g c m)) hx hb hr (fun t ht hW => ⟨_, rfl, congrArg zI (rfl), ht⟩) (fun _ h => by cases h) dX6_originalOf_12
set_option maxHeartbeats 4000000 in
set_option maxRecDepth 100000 in
theorem ct_X6_placeOf (l : Launch) (D : va_G) (cI cT : ClassId) (ad : Nat → Nat) (σ : Nat → Int → Int) (g : Int → Int) (hR : Rel σ g) (hI : Inv g) (c : Int) (k : Int)  : zMr l yX6_placeOf wsX6_placeOf ({ frames := 0, cells := 0, slots := 0, locals := 0 }) D cI cT [.ref (ad 1), .int (zI (c)), .int (zI (k))] (fun _ H => zW D ad 20 (sC cI ad σ) H) (fun r => r = zI (c * 6 + k)) := by
  refine Met.ofW (cc := cX6_placeOf) (maxL := 3) (ret := (some .int)) (by decide) rfl ?_
  intro p_ e_ s m_ args below meth c_ s₁ B hml hv
  obtain ⟨rfl, hK, hF⟩ := hv
  have hx := B.exec
  have hb := B.bytes
  have hr := B.returns
  have hts := atoms_spec (ws := wsX6_placeOf) B.pre
  have hown : s.vm.findClass RX6 = some m_.cls := findClass_of_methodNamed B.named
  have hlocks := B.notSynchronized
  have S : CallFix p_ m_ c_ cX6_placeOf 3 s _ wsX6_placeOf RX6 := ⟨hx, hb, hml, hown, hts⟩
  have hP := hF
  have hl := lv_entry ([.ref (ad 1), .int (zI (c)), .int (zI (k))]) (n := 3) (Nat.le_of_ble_eq_true rfl)
  rw [lg_entry_eq]
  generalize (lg_sl ([.ref (ad 1), .int (zI (c)), .int (zI (k))]) ++ List.replicate (3 - (lg_sl ([.ref (ad 1), .int (zI (c)), .int (zI (k))])).length) Slot.unset).toArray = ls at hl ⊢
  have hl : lv_has ls 3 [(0, .ref (ad 1)), (1, .int (zI (c))), (2, .int (zI (k)))] := hl
  refine lv_iload_n (pc := 0) hx hb dX6_placeOf_0 rfl (lv_at hl 1 rfl) ?_
  refine lv_bipush (pc := 1) (v := zI 6) hx hb dX6_placeOf_1 zc_bipush_6 ?_
  refine zr_imul (pc := 3) (d := c * 6) hx hb dX6_placeOf_3 rfl ?_
  refine lv_iload_n (pc := 4) hx hb dX6_placeOf_4 rfl (lv_at hl 2 rfl) ?_
  refine zr_iadd (pc := 5) (d := (c * 6) + k) hx hb dX6_placeOf_5 rfl ?_
  exact W.iret (v := zI ((c * 6) + k)) hx hb hr (fun t ht hW => ⟨_, rfl, congrArg zI (rfl), ht⟩) (fun _ h => by cases h) dX6_placeOf_6
set_option maxHeartbeats 4000000 in
set_option maxRecDepth 100000 in
theorem ct_X0_measureOf (l : Launch) (D : va_G) (cI cT : ClassId) (ad : Nat → Nat) (σ : Nat → Int → Int) (g : Int → Int) (hR : Rel σ g) (hI : Inv g) (a : Int) (m : Int) (a0 : 0 ≤ a) (a1 : a < g 1) (m0 : 0 ≤ m) (m1 : m < 3) : zMr l yX0_measureOf wsX0_measureOf ({ frames := 1, cells := 0, slots := 0, locals := 21 }) D cI cT [.ref (ad 2), .int (zI (a)), .int (zI (m))] (fun _ H => zW D ad 20 (sC cI ad σ) H) (fun r => r = zI (gA g a m)) := by
  refine Met.ofW (cc := cX0_measureOf) (maxL := 3) (ret := (some .int)) (by decide) rfl ?_
  intro p_ e_ s m_ args below meth c_ s₁ B hml hv
  obtain ⟨rfl, hK, hF⟩ := hv
  have hx := B.exec
  have hb := B.bytes
  have hr := B.returns
  have hts := atoms_spec (ws := wsX0_measureOf) B.pre
  have hown : s.vm.findClass RX0 = some m_.cls := findClass_of_methodNamed B.named
  have hlocks := B.notSynchronized
  have S : CallFix p_ m_ c_ cX0_measureOf 3 s _ wsX0_measureOf RX0 := ⟨hx, hb, hml, hown, hts⟩
  have i_X0 : ∀ w ∈ u_ws RX0 TX0 3, w ∈ wsX0_measureOf := fun _ h => List.mem_cons_of_mem _ (List.mem_append_right _ h)
  have hP := hF
  have hnA := iv_nA hI
  have hl := lv_entry ([.ref (ad 2), .int (zI (a)), .int (zI (m))]) (n := 3) (Nat.le_of_ble_eq_true rfl)
  rw [lg_entry_eq]
  generalize (lg_sl ([.ref (ad 2), .int (zI (a)), .int (zI (m))]) ++ List.replicate (3 - (lg_sl ([.ref (ad 2), .int (zI (a)), .int (zI (m))])).length) Slot.unset).toArray = ls at hl ⊢
  have hl : lv_has ls 3 [(0, .ref (ad 2)), (1, .int (zI (a))), (2, .int (zI (m)))] := hl
  refine lv_aload_n (pc := 0) hx hb dX0_measureOf_0 rfl (lv_at hl 0 rfl) ?_
  refine zr_get (pc := 1) S hK (hP 2 (by decide)) rfl i_X0 1 (by decide) (List.mem_of_getElem? (i := 1) rfl) rfl dX0_measureOf_1 ?_
  refine lv_iload_n (pc := 4) hx hb dX0_measureOf_4 rfl (lv_at hl 1 rfl) ?_
  refine lv_iconst (pc := 5) (v := zI 3) hx hb dX0_measureOf_5 rfl ?_
  refine zr_imul (pc := 6) (d := a * 3) hx hb dX0_measureOf_6 rfl ?_
  refine lv_iload_n (pc := 7) hx hb dX0_measureOf_7 rfl (lv_at hl 2 rfl) ?_
  refine zr_iadd (pc := 8) (d := (a * 3) + m) hx hb dX0_measureOf_8 rfl ?_
  refine zr_ni (pc := 9) (As := [.ref (ad 13), .int (zI ((a * 3) + m))]) (rest := []) S (ct_X7_at l D cI cT (ad 13) 24 _ ((a * 3) + m) (gA g a m) (by decide) (by omega) (by omega) (rl_me hR a0 a1 m0 m1) (by omega)) (va_cnB 2 hts gX0_measureOf_X7_at_n30 rfl rfl rfl (zK_nest hK 18 rfl) (hts _ (List.mem_of_getElem? (i := 3) rfl)) (by decide +kernel) ⟨Nat.le_of_ble_eq_true rfl, Nat.le_of_ble_eq_true rfl⟩) (hts _ (List.mem_of_getElem? (i := 2) rfl)) zs_ar hK (zAr_of (zK_int hK) (hP 13 (by decide))) rfl hl.1 rfl (Nat.le_of_ble_eq_true rfl) dX0_measureOf_9 ⟨Nat.le_of_ble_eq_true rfl, Nat.le_of_ble_eq_true rfl⟩ (fun r_9 hr_9 => ?_)
  subst hr_9
  exact W.iret (v := zI (gA g a m)) hx hb hr (fun t ht hW => ⟨_, rfl, congrArg zI (rfl), ht⟩) (fun _ h => by cases h) dX0_measureOf_12
set_option maxHeartbeats 4000000 in
set_option maxRecDepth 100000 in
theorem ct_X0_wornIn (l : Launch) (D : va_G) (cI cT : ClassId) (ad : Nat → Nat) (σ : Nat → Int → Int) (g : Int → Int) (hR : Rel σ g) (hI : Inv g) (sc : Int) (a : Int) (s0 : 0 ≤ sc) (s1 : sc < 12) (a0 : 0 ≤ a) (a1 : a < g 1) : zMr l yX0_wornIn wsX0_wornIn ({ frames := 1, cells := 0, slots := 0, locals := 21 }) D cI cT [.ref (ad 2), .int (zI (sc)), .int (zI (a))] (fun _ H => zW D ad 20 (sC cI ad σ) H) (fun r => r = zI (gW g sc a)) := by
  refine Met.ofW (cc := cX0_wornIn) (maxL := 3) (ret := (some .int)) (by decide) rfl ?_
  intro p_ e_ s m_ args below meth c_ s₁ B hml hv
  obtain ⟨rfl, hK, hF⟩ := hv
  have hx := B.exec
  have hb := B.bytes
  have hr := B.returns
  have hts := atoms_spec (ws := wsX0_wornIn) B.pre
  have hown : s.vm.findClass RX0 = some m_.cls := findClass_of_methodNamed B.named
  have hlocks := B.notSynchronized
  have S : CallFix p_ m_ c_ cX0_wornIn 3 s _ wsX0_wornIn RX0 := ⟨hx, hb, hml, hown, hts⟩
  have i_X0 : ∀ w ∈ u_ws RX0 TX0 3, w ∈ wsX0_wornIn := fun _ h => List.mem_cons_of_mem _ (List.mem_append_right _ h)
  have hP := hF
  have hnA := iv_nA hI
  have hl := lv_entry ([.ref (ad 2), .int (zI (sc)), .int (zI (a))]) (n := 3) (Nat.le_of_ble_eq_true rfl)
  rw [lg_entry_eq]
  generalize (lg_sl ([.ref (ad 2), .int (zI (sc)), .int (zI (a))]) ++ List.replicate (3 - (lg_sl ([.ref (ad 2), .int (zI (sc)), .int (zI (a))])).length) Slot.unset).toArray = ls at hl ⊢
  have hl : lv_has ls 3 [(0, .ref (ad 2)), (1, .int (zI (sc))), (2, .int (zI (a)))] := hl
  refine lv_aload_n (pc := 0) hx hb dX0_wornIn_0 rfl (lv_at hl 0 rfl) ?_
  refine zr_get (pc := 1) S hK (hP 2 (by decide)) rfl i_X0 2 (by decide) (List.mem_of_getElem? (i := 1) rfl) rfl dX0_wornIn_1 ?_
  refine lv_iload_n (pc := 4) hx hb dX0_wornIn_4 rfl (lv_at hl 1 rfl) ?_
  refine lv_bipush (pc := 5) (v := zI 8) hx hb dX0_wornIn_5 zc_bipush_8 ?_
  refine zr_imul (pc := 7) (d := sc * 8) hx hb dX0_wornIn_7 rfl ?_
  refine lv_iload_n (pc := 8) hx hb dX0_wornIn_8 rfl (lv_at hl 2 rfl) ?_
  refine zr_iadd (pc := 9) (d := (sc * 8) + a) hx hb dX0_wornIn_9 rfl ?_
  refine zr_ni (pc := 10) (As := [.ref (ad 14), .int (zI ((sc * 8) + a))]) (rest := []) S (ct_X7_at l D cI cT (ad 14) 96 _ ((sc * 8) + a) (gW g sc a) (by decide) (by omega) (by omega) (rl_wo hR a0 a1 s0 s1) (by omega)) (va_cnB 2 hts gX0_wornIn_X7_at_n30 rfl rfl rfl (zK_nest hK 18 rfl) (hts _ (List.mem_of_getElem? (i := 3) rfl)) (by decide +kernel) ⟨Nat.le_of_ble_eq_true rfl, Nat.le_of_ble_eq_true rfl⟩) (hts _ (List.mem_of_getElem? (i := 2) rfl)) zs_ar hK (zAr_of (zK_int hK) (hP 14 (by decide))) rfl hl.1 rfl (Nat.le_of_ble_eq_true rfl) dX0_wornIn_10 ⟨Nat.le_of_ble_eq_true rfl, Nat.le_of_ble_eq_true rfl⟩ (fun r_10 hr_10 => ?_)
  subst hr_10
  exact W.iret (v := zI (gW g sc a)) hx hb hr (fun t ht hW => ⟨_, rfl, congrArg zI (rfl), ht⟩) (fun _ h => by cases h) dX0_wornIn_13
