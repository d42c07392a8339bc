set_option maxHeartbeats 4000000 in
set_option maxRecDepth 100000 in
theorem ct_X7_isWithin (l : Launch) (D : va_G) (cI cT : ClassId) (a : Int) (b : Int) (d : Int) (r_a : -2147483648 ≤ a ∧ a ≤ 2147483647) (r_b : -2147483648 ≤ b ∧ b ≤ 2147483647) (r_d : -2147483648 ≤ d ∧ d ≤ 2147483647) : zMr l yX7_isWithin wsX7_isWithin ({ frames := 0, cells := 0, slots := 0, locals := 0 }) D cI cT [.int (zI (a)), .int (zI (b)), .int (zI (d))] (fun _ _ => True) (fun r => bz (b ≤ a ∧ a ≤ d) r) := by
  refine Met.ofW (cc := cX7_isWithin) (maxL := 3) (ret := (some .boolean)) (by decide) rfl ?_
  intro p_ e_ s m_ args below meth c_ s₁ B hml hv
  obtain ⟨rfl, hK, hF⟩ := hv
  have hx := B.exec
  have hb := B.bytes
  have hr := B.returns
  have hts := atoms_spec (ws := wsX7_isWithin) B.pre
  have hown : s.vm.findClass RX7 = some m_.cls := findClass_of_methodNamed B.named
  have hlocks := B.notSynchronized
  have S : CallFix p_ m_ c_ cX7_isWithin 3 s _ wsX7_isWithin RX7 := ⟨hx, hb, hml, hown, hts⟩
  have hl := lv_entry ([.int (zI (a)), .int (zI (b)), .int (zI (d))]) (n := 3) (Nat.le_of_ble_eq_true rfl)
  rw [lg_entry_eq]
  generalize (lg_sl ([.int (zI (a)), .int (zI (b)), .int (zI (d))]) ++ List.replicate (3 - (lg_sl ([.int (zI (a)), .int (zI (b)), .int (zI (d))])).length) Slot.unset).toArray = ls at hl ⊢
  have hl : lv_has ls 3 [(0, .int (zI (a))), (1, .int (zI (b))), (2, .int (zI (d)))] := hl
  refine lv_iload_n (pc := 0) hx hb dX7_isWithin_0 rfl (lv_at hl 0 rfl) ?_
  refine lv_iload_n (pc := 1) hx hb dX7_isWithin_1 rfl (lv_at hl 1 rfl) ?_
  refine zr_icmp_lt (pc := 2) (tgt := 14) hx hb dX7_isWithin_2 (by decide) (by omega) (by omega) (fun c_2 => ?_) (fun c_2 => ?_)
  · refine lv_iconst (pc := 14) (v := zI 0) hx hb dX7_isWithin_14 rfl ?_
    exact W.zret (ty := .boolean) (v := zI (0)) hx hb hr (by first | rfl | decide) (fun tz ht hW => ⟨_, rfl, bz_f (by omega), ht⟩) (fun _ h => by cases h) dX7_isWithin_15
  · refine lv_iload_n (pc := 5) hx hb dX7_isWithin_5 rfl (lv_at hl 0 rfl) ?_
    refine lv_iload_n (pc := 6) hx hb dX7_isWithin_6 rfl (lv_at hl 2 rfl) ?_
    refine zr_icmp_gt (pc := 7) (tgt := 14) hx hb dX7_isWithin_7 (by decide) (by omega) (by omega) (fun c_7 => ?_) (fun c_7 => ?_)
    · refine lv_iconst (pc := 14) (v := zI 0) hx hb dX7_isWithin_14 rfl ?_
      exact W.zret (ty := .boolean) (v := zI (0)) hx hb hr (by first | rfl | decide) (fun tz ht hW => ⟨_, rfl, bz_f (by omega), ht⟩) (fun _ h => by cases h) dX7_isWithin_15
    · refine lv_iconst (pc := 10) (v := zI 1) hx hb dX7_isWithin_10 rfl ?_
      refine lv_goto (pc := 11) (tgt := 15) hx hb dX7_isWithin_11 (by decide) ?_
      exact W.zret (ty := .boolean) (v := zI (1)) hx hb hr (by first | rfl | decide) (fun tz ht hW => ⟨_, rfl, bz_t (by omega), ht⟩) (fun _ h => by cases h) dX7_isWithin_15
set_option maxHeartbeats 4000000 in
set_option maxRecDepth 100000 in
theorem ct_X7_at (l : Launch) (D : va_G) (cI cT : ClassId) (q : Nat) (n : Nat) (f : Int → Int) (i v : Int) (hn : (n : Int) ≤ 2147483647) (h0 : 0 ≤ i) (h1 : i < (n : Int)) (hv : f i = v) (r_i : -2147483648 ≤ i ∧ i ≤ 2147483647) : zMr l yX7_at wsX7_at ({ frames := 0, cells := 0, slots := 0, locals := 0 }) D cI cT [.ref (q), .int (zI (i))] (fun U H => zAr n f q U H) (fun r => r = zI v) := by
  refine Met.ofW (cc := cX7_at) (maxL := 2) (ret := (some .int)) (by decide) rfl ?_
  intro p_ e_ s m_ args below meth c_ s₁ B hml hv
  obtain ⟨rfl, hK, hF⟩ := hv
  have hx := B.exec
  have hb := B.bytes
  have hr := B.returns
  have hts := atoms_spec (ws := wsX7_at) B.pre
  have hown : s.vm.findClass RX7 = some m_.cls := findClass_of_methodNamed B.named
  have hlocks := B.notSynchronized
  have S : CallFix p_ m_ c_ cX7_at 2 s _ wsX7_at RX7 := ⟨hx, hb, hml, hown, hts⟩
  have hl := lv_entry ([.ref (q), .int (zI (i))]) (n := 2) (Nat.le_of_ble_eq_true rfl)
  rw [lg_entry_eq]
  generalize (lg_sl ([.ref (q), .int (zI (i))]) ++ List.replicate (2 - (lg_sl ([.ref (q), .int (zI (i))])).length) Slot.unset).toArray = ls at hl ⊢
  have hl : lv_has ls 2 [(0, .ref (q)), (1, .int (zI (i)))] := hl
  refine lv_iload_n (pc := 0) hx hb dX7_at_0 rfl (lv_at hl 1 rfl) ?_
  refine zr_if_lt (pc := 1) (tgt := 16) hx hb dX7_at_1 (by decide) (by omega) (fun c_1 => ?_) (fun c_1 => ?_)
  · exact absurd c_1 (by omega)
  · refine lv_iload_n (pc := 4) hx hb dX7_at_4 rfl (lv_at hl 1 rfl) ?_
    refine lv_aload_n (pc := 5) hx hb dX7_at_5 rfl (lv_at hl 0 rfl) ?_
    refine zr_alen (pc := 6) (n := n) hx hb hF dX7_at_6 ?_
    refine zr_icmp_ge (pc := 7) (tgt := 16) hx hb dX7_at_7 (by decide) (by omega) (by omega) (fun c_7 => ?_) (fun c_7 => ?_)
    · exact absurd c_7 (by omega)
    · refine lv_aload_n (pc := 10) hx hb dX7_at_10 rfl (lv_at hl 0 rfl) ?_
      refine lv_iload_n (pc := 11) hx hb dX7_at_11 rfl (lv_at hl 1 rfl) ?_
      refine zr_ald (pc := 12) (n := n) hx hb hF (by omega) (by omega) hn dX7_at_12 ?_
      refine lv_goto (pc := 13) (tgt := 17) hx hb dX7_at_13 (by decide) ?_
      exact W.iret (v := zI (f i)) hx hb hr (fun tz ht hW => ⟨_, rfl, congrArg zI (hv), ht⟩) (fun _ h => by cases h) dX7_at_17
set_option maxHeartbeats 4000000 in
set_option maxRecDepth 100000 in
theorem ct_X7_isIn (l : Launch) (D : va_G) (cI cT : ClassId) (n : Int) (k : Int) (n0 : 0 ≤ n) (n1 : n ≤ 65535) (k0 : 0 ≤ k) (k1 : k ≤ 30) : zMr l yX7_isIn wsX7_isIn ({ frames := 0, cells := 0, slots := 0, locals := 0 }) D cI cT [.int (zI (n)), .int (zI (k))] (fun _ _ => True) (fun r => bz (bit n k) r) := by
  refine Met.ofW (cc := cX7_isIn) (maxL := 2) (ret := (some .boolean)) (by decide) rfl ?_
  intro p_ e_ s m_ args below meth c_ s₁ B hml hv
  obtain ⟨rfl, hK, hF⟩ := hv
  have hx := B.exec
  have hb := B.bytes
  have hr := B.returns
  have hts := atoms_spec (ws := wsX7_isIn) B.pre
  have hown : s.vm.findClass RX7 = some m_.cls := findClass_of_methodNamed B.named
  have hlocks := B.notSynchronized
  have S : CallFix p_ m_ c_ cX7_isIn 2 s _ wsX7_isIn RX7 := ⟨hx, hb, hml, hown, hts⟩
  have hm := Int.emod_two_eq (n / pw k)
  have hl := lv_entry ([.int (zI (n)), .int (zI (k))]) (n := 2) (Nat.le_of_ble_eq_true rfl)
  rw [lg_entry_eq]
  generalize (lg_sl ([.int (zI (n)), .int (zI (k))]) ++ List.replicate (2 - (lg_sl ([.int (zI (n)), .int (zI (k))])).length) Slot.unset).toArray = ls at hl ⊢
  have hl : lv_has ls 2 [(0, .int (zI (n))), (1, .int (zI (k)))] := hl
  refine lv_iload_n (pc := 0) hx hb dX7_isIn_0 rfl (lv_at hl 0 rfl) ?_
  refine lv_iload_n (pc := 1) hx hb dX7_isIn_1 rfl (lv_at hl 1 rfl) ?_
  refine zr_ishr (pc := 2) (d := n / pw k) hx hb dX7_isIn_2 (zi_shr n0 (by omega) k0 (by omega)) ?_
  refine lv_iconst (pc := 3) (v := zI 1) hx hb dX7_isIn_3 rfl ?_
  refine zr_iand (pc := 4) (d := n / pw k % 2) hx hb dX7_isIn_4 (zi_and1 (Int.ediv_nonneg n0 (Int.le_of_lt (pw_pos k))) (by have := Int.ediv_le_self (pw k) n0; omega)) ?_
  refine zr_if_eq (pc := 5) (tgt := 12) hx hb dX7_isIn_5 (by decide) (by omega) (fun c_5 => ?_) (fun c_5 => ?_)
  · refine lv_iconst (pc := 12) (v := zI 0) hx hb dX7_isIn_12 rfl ?_
    exact W.zret (ty := .boolean) (v := zI (0)) hx hb hr (by first | rfl | decide) (fun tz ht hW => ⟨_, rfl, bz_f (fun q => by unfold bit at q; omega), ht⟩) (fun _ h => by cases h) dX7_isIn_13
  · refine lv_iconst (pc := 8) (v := zI 1) hx hb dX7_isIn_8 rfl ?_
    refine lv_goto (pc := 9) (tgt := 13) hx hb dX7_isIn_9 (by decide) ?_
    exact W.zret (ty := .boolean) (v := zI (1)) hx hb hr (by first | rfl | decide) (fun tz ht hW => ⟨_, rfl, bz_t (by have h2 := Int.emod_two_eq (n / pw k); unfold bit; omega), ht⟩) (fun _ h => by cases h) dX7_isIn_13
set_option maxHeartbeats 4000000 in
set_option maxRecDepth 100000 in
theorem ct_X1_feeFor (l : Launch) (D : va_G) (cI cT : ClassId) (n : Int) (r : Int) (n0 : 0 ≤ n) (n1 : n ≤ 100) (r0 : 0 ≤ r) (r1 : r ≤ 100) : zMr l yX1_feeFor wsX1_feeFor ({ frames := 0, cells := 0, slots := 0, locals := 0 }) D cI cT [.int (zI (n)), .int (zI (r))] (fun _ _ => True) (fun q => q = zI (feeF n r)) := by
  refine Met.ofW (cc := cX1_feeFor) (maxL := 2) (ret := (some .int)) (by decide) rfl ?_
  intro p_ e_ s m_ args below meth c_ s₁ B hml hv
  obtain ⟨rfl, hK, hF⟩ := hv
  have hx := B.exec
  have hb := B.bytes
  have hr := B.returns
  have hts := atoms_spec (ws := wsX1_feeFor) B.pre
  have hown : s.vm.findClass RX1 = some m_.cls := findClass_of_methodNamed B.named
  have hlocks := B.notSynchronized
  have S : CallFix p_ m_ c_ cX1_feeFor 2 s _ wsX1_feeFor RX1 := ⟨hx, hb, hml, hown, hts⟩
  have hl := lv_entry ([.int (zI (n)), .int (zI (r))]) (n := 2) (Nat.le_of_ble_eq_true rfl)
  rw [lg_entry_eq]
  generalize (lg_sl ([.int (zI (n)), .int (zI (r))]) ++ List.replicate (2 - (lg_sl ([.int (zI (n)), .int (zI (r))])).length) Slot.unset).toArray = ls at hl ⊢
  have hl : lv_has ls 2 [(0, .int (zI (n))), (1, .int (zI (r)))] := hl
  refine lv_iload_n (pc := 0) hx hb dX1_feeFor_0 rfl (lv_at hl 1 rfl) ?_
  refine lv_iload_n (pc := 1) hx hb dX1_feeFor_1 rfl (lv_at hl 0 rfl) ?_
  refine lv_iload_n (pc := 2) hx hb dX1_feeFor_2 rfl (lv_at hl 0 rfl) ?_
  refine lv_bipush (pc := 3) (v := zI 7) hx hb dX1_feeFor_3 zc_bipush_7 ?_
  refine zr_idiv (pc := 5) (d := n / 7) hx hb dX1_feeFor_5 (by have h := zi_tdiv (a := n) (b := 7) (by omega) (by decide); rw [Int.tdiv_eq_ediv_of_nonneg n0] at h; exact h) ?_
  refine zr_isub (pc := 6) (d := n - (n / 7)) hx hb dX1_feeFor_6 rfl ?_
  refine zr_imul (pc := 7) (d := r * (n - (n / 7))) hx hb dX1_feeFor_7 rfl ?_
  exact W.iret (v := zI (r * (n - (n / 7)))) hx hb hr (fun tz ht hW => ⟨_, rfl, congrArg zI (rfl), ht⟩) (fun _ h => by cases h) dX1_feeFor_8
set_option maxHeartbeats 4000000 in
set_option maxRecDepth 100000 in
theorem ct_X6_has (l : Launch) (D : va_G) (cI cT : ClassId) (ad : Nat → Nat) (σ : Nat → Int → Int) (g : Int → Int) (hR : Rel σ g) (hI : Inv g) (c : Int) (r_c : -2147483648 ≤ c ∧ c ≤ 2147483647) : zMr l yX6_has wsX6_has ({ frames := 0, cells := 0, slots := 0, locals := 0 }) D cI cT [.ref (ad 1), .int (zI (c))] (fun _ H => zW D ad 20 (sC cI ad σ) H) (fun r => bz (0 ≤ c ∧ c < g 0) r) := by
  refine Met.ofW (cc := cX6_has) (maxL := 2) (ret := (some .boolean)) (by decide) rfl ?_
  intro p_ e_ s m_ args below meth c_ s₁ B hml hv
  obtain ⟨rfl, hK, hF⟩ := hv
  have hx := B.exec
  have hb := B.bytes
  have hr := B.returns
  have hts := atoms_spec (ws := wsX6_has) B.pre
  have hown : s.vm.findClass RX6 = some m_.cls := findClass_of_methodNamed B.named
  have hlocks := B.notSynchronized
  have S : CallFix p_ m_ c_ cX6_has 2 s _ wsX6_has RX6 := ⟨hx, hb, hml, hown, hts⟩
  have i_X6 : ∀ w ∈ u_ws RX6 TX6 9, w ∈ wsX6_has := fun _ h => List.mem_cons_of_mem _ (List.mem_append_right _ h)
  have hP := hF
  have hnC := iv_nC hI
  have hl := lv_entry ([.ref (ad 1), .int (zI (c))]) (n := 2) (Nat.le_of_ble_eq_true rfl)
  rw [lg_entry_eq]
  generalize (lg_sl ([.ref (ad 1), .int (zI (c))]) ++ List.replicate (2 - (lg_sl ([.ref (ad 1), .int (zI (c))])).length) Slot.unset).toArray = ls at hl ⊢
  have hl : lv_has ls 2 [(0, .ref (ad 1)), (1, .int (zI (c)))] := hl
  refine lv_iload_n (pc := 0) hx hb dX6_has_0 rfl (lv_at hl 1 rfl) ?_
  refine zr_if_lt (pc := 1) (tgt := 16) hx hb dX6_has_1 (by decide) (by omega) (fun c_1 => ?_) (fun c_1 => ?_)
  · refine lv_iconst (pc := 16) (v := zI 0) hx hb dX6_has_16 rfl ?_
    exact W.zret (ty := .boolean) (v := zI (0)) hx hb hr (by first | rfl | decide) (fun tz ht hW => ⟨_, rfl, bz_f (by omega), ht⟩) (fun _ h => by cases h) dX6_has_17
  · refine lv_iload_n (pc := 4) hx hb dX6_has_4 rfl (lv_at hl 1 rfl) ?_
    refine lv_aload_n (pc := 5) hx hb dX6_has_5 rfl (lv_at hl 0 rfl) ?_
    refine zr_get (pc := 6) S hK (hP 1 (by decide)) rfl i_X6 0 (by decide) (List.mem_of_getElem? (i := 1) rfl) rfl dX6_has_6 ?_
    refine zr_top (b := g 0) (rl_nC hR) ?_
    refine zr_icmp_ge (pc := 9) (tgt := 16) hx hb dX6_has_9 (by decide) (by omega) (by omega) (fun c_9 => ?_) (fun c_9 => ?_)
    · refine lv_iconst (pc := 16) (v := zI 0) hx hb dX6_has_16 rfl ?_
      exact W.zret (ty := .boolean) (v := zI (0)) hx hb hr (by first | rfl | decide) (fun tz ht hW => ⟨_, rfl, bz_f (by omega), ht⟩) (fun _ h => by cases h) dX6_has_17
    · refine lv_iconst (pc := 12) (v := zI 1) hx hb dX6_has_12 rfl ?_
      refine lv_goto (pc := 13) (tgt := 17) hx hb dX6_has_13 (by decide) ?_
      exact W.zret (ty := .boolean) (v := zI (1)) hx hb hr (by first | rfl | decide) (fun tz ht hW => ⟨_, rfl, bz_t (by omega), ht⟩) (fun _ h => by cases h) dX6_has_17
set_option maxHeartbeats 4000000 in
set_option maxRecDepth 100000 in
theorem ct_X6_originalOf (l : Launch) (D : va_G) (cI cT : ClassId) (ad : Nat → Nat) (σ : Nat → Int → Int) (g : Int → Int) (hR : Rel σ g) (hI : Inv g) (c : Int) (m : Int) (h0 : 0 ≤ c) (h1 : c < g 0) (m0 : 0 ≤ m) (m1 : m < 3) : zMr l yX6_originalOf wsX6_originalOf ({ frames := 1, cells := 0, slots := 0, locals := 21 }) D cI cT [.ref (ad 1), .int (zI (c)), .int (zI (m))] (fun _ H => zW D ad 20 (sC cI ad σ) H) (fun r => r = zI (gC g c m)) := by
  refine Met.ofW (cc := cX6_originalOf) (maxL := 3) (ret := (some .int)) (by decide) rfl ?_
  intro p_ e_ s m_ args below meth c_ s₁ B hml hv
  obtain ⟨rfl, hK, hF⟩ := hv
  have hx := B.exec
  have hb := B.bytes
  have hr := B.returns
  have hts := atoms_spec (ws := wsX6_originalOf) B.pre
  have hown : s.vm.findClass RX6 = some m_.cls := findClass_of_methodNamed B.named
  have hlocks := B.notSynchronized
  have S : CallFix p_ m_ c_ cX6_originalOf 3 s _ wsX6_originalOf RX6 := ⟨hx, hb, hml, hown, hts⟩
  have i_X6 : ∀ w ∈ u_ws RX6 TX6 9, w ∈ wsX6_originalOf := fun _ h => List.mem_cons_of_mem _ (List.mem_append_right _ h)
  have hP := hF
  have hnC := iv_nC hI
  have hl := lv_entry ([.ref (ad 1), .int (zI (c)), .int (zI (m))]) (n := 3) (Nat.le_of_ble_eq_true rfl)
  rw [lg_entry_eq]
  generalize (lg_sl ([.ref (ad 1), .int (zI (c)), .int (zI (m))]) ++ List.replicate (3 - (lg_sl ([.ref (ad 1), .int (zI (c)), .int (zI (m))])).length) Slot.unset).toArray = ls at hl ⊢
  have hl : lv_has ls 3 [(0, .ref (ad 1)), (1, .int (zI (c))), (2, .int (zI (m)))] := hl
  refine lv_aload_n (pc := 0) hx hb dX6_originalOf_0 rfl (lv_at hl 0 rfl) ?_
  refine zr_get (pc := 1) S hK (hP 1 (by decide)) rfl i_X6 1 (by decide) (List.mem_of_getElem? (i := 1) rfl) rfl dX6_originalOf_1 ?_
  refine lv_iload_n (pc := 4) hx hb dX6_originalOf_4 rfl (lv_at hl 1 rfl) ?_
  refine lv_iconst (pc := 5) (v := zI 3) hx hb dX6_originalOf_5 rfl ?_
  refine zr_imul (pc := 6) (d := c * 3) hx hb dX6_originalOf_6 rfl ?_
  refine lv_iload_n (pc := 7) hx hb dX6_originalOf_7 rfl (lv_at hl 2 rfl) ?_
  refine zr_iadd (pc := 8) (d := (c * 3) + m) hx hb dX6_originalOf_8 rfl ?_
  refine zr_ni (pc := 9) (As := [.ref (ad 5), .int (zI ((c * 3) + m))]) (rest := []) S (ct_X7_at l D cI cT (ad 5) 48 _ ((c * 3) + m) (gC g c m) (by decide) (by omega) (by omega) (rl_or hR h0 h1 m0 m1) (by omega)) (va_cnB 2 hts gX6_originalOf_X7_at_n48 rfl rfl rfl (zK_nest hK 13 rfl) (hts _ (List.mem_of_getElem? (i := 3) rfl)) (by decide +kernel) ⟨Nat.le_of_ble_eq_true rfl, Nat.le_of_ble_eq_true rfl⟩) (hts _ (List.mem_of_getElem? (i := 2) rfl)) zs_ar hK (zAr_of (zK_int hK) (hP 5 (by decide))) rfl hl.1 rfl (Nat.le_of_ble_eq_true rfl) dX6_originalOf_9 ⟨Nat.le_of_ble_eq_true rfl, Nat.le_of_ble_eq_true rfl⟩ (fun r_9 hr_9 => ?_)
  subst hr_9
  exact W.iret (v := zI (gC g c m)) hx hb hr (fun tz ht hW => ⟨_, rfl, congrArg zI (rfl), ht⟩) (fun _ h => by cases h) dX6_originalOf_12
set_option maxHeartbeats 4000000 in
set_option maxRecDepth 100000 in
theorem ct_X6_placeOf (l : Launch) (D : va_G) (cI cT : ClassId) (x : Nat) (c k : Int) : zMr l yX6_placeOf wsX6_placeOf ({ frames := 0, cells := 0, slots := 0, locals := 0 }) D cI cT [.ref (x), .int (zI (c)), .int (zI (k))] (fun _ _ => True) (fun r => r = zI (c * 6 + k)) := by
  refine Met.ofW (cc := cX6_placeOf) (maxL := 3) (ret := (some .int)) (by decide) rfl ?_
  intro p_ e_ s m_ args below meth c_ s₁ B hml hv
  obtain ⟨rfl, hK, hF⟩ := hv
  have hx := B.exec
  have hb := B.bytes
  have hr := B.returns
  have hts := atoms_spec (ws := wsX6_placeOf) B.pre
  have hown : s.vm.findClass RX6 = some m_.cls := findClass_of_methodNamed B.named
  have hlocks := B.notSynchronized
  have S : CallFix p_ m_ c_ cX6_placeOf 3 s _ wsX6_placeOf RX6 := ⟨hx, hb, hml, hown, hts⟩
  have hl := lv_entry ([.ref (x), .int (zI (c)), .int (zI (k))]) (n := 3) (Nat.le_of_ble_eq_true rfl)
  rw [lg_entry_eq]
  generalize (lg_sl ([.ref (x), .int (zI (c)), .int (zI (k))]) ++ List.replicate (3 - (lg_sl ([.ref (x), .int (zI (c)), .int (zI (k))])).length) Slot.unset).toArray = ls at hl ⊢
  have hl : lv_has ls 3 [(0, .ref (x)), (1, .int (zI (c))), (2, .int (zI (k)))] := hl
  refine lv_iload_n (pc := 0) hx hb dX6_placeOf_0 rfl (lv_at hl 1 rfl) ?_
  refine lv_bipush (pc := 1) (v := zI 6) hx hb dX6_placeOf_1 zc_bipush_6 ?_
  refine zr_imul (pc := 3) (d := c * 6) hx hb dX6_placeOf_3 rfl ?_
  refine lv_iload_n (pc := 4) hx hb dX6_placeOf_4 rfl (lv_at hl 2 rfl) ?_
  refine zr_iadd (pc := 5) (d := (c * 6) + k) hx hb dX6_placeOf_5 rfl ?_
  exact W.iret (v := zI ((c * 6) + k)) hx hb hr (fun tz ht hW => ⟨_, rfl, congrArg zI (rfl), ht⟩) (fun _ h => by cases h) dX6_placeOf_6
set_option maxHeartbeats 4000000 in
set_option maxRecDepth 100000 in
theorem ct_X6_present (l : Launch) (D : va_G) (cI cT : ClassId) (ad : Nat → Nat) (σ : Nat → Int → Int) (g : Int → Int) (hR : Rel σ g) (hI : Inv g) (c : Int) (m : Int) (h0 : 0 ≤ c) (h1 : c < g 0) (m0 : 0 ≤ m) (m1 : m < 3) : zMr l yX6_present wsX6_present ({ frames := 2, cells := 0, slots := 0, locals := 43 }) D cI cT [.ref (ad 1), .int (zI (c)), .int (zI (m))] (fun _ H => zW D ad 20 (sC cI ad σ) H) (fun r => r = zI (pres g c m)) := by
  refine Met.ofW (cc := cX6_present) (maxL := 7) (ret := (some .int)) (by decide) rfl ?_
  intro p_ e_ s m_ args below meth c_ s₁ B hml hv
  obtain ⟨rfl, hK, hF⟩ := hv
  have hx := B.exec
  have hb := B.bytes
  have hr := B.returns
  have hts := atoms_spec (ws := wsX6_present) B.pre
  have hown : s.vm.findClass RX6 = some m_.cls := findClass_of_methodNamed B.named
  have hlocks := B.notSynchronized
  have S : CallFix p_ m_ c_ cX6_present 7 s _ wsX6_present RX6 := ⟨hx, hb, hml, hown, hts⟩
  have i_X6 : ∀ w ∈ u_ws RX6 TX6 9, w ∈ wsX6_present := fun _ h => List.mem_cons_of_mem _ (List.mem_append_right _ h)
  have hP := hF
  have hnC := iv_nC hI
  have hna := iv_na hI h0 h1
  have hor := iv_or hI h0 h1 m0 m1
  have hl := lv_entry ([.ref (ad 1), .int (zI (c)), .int (zI (m))]) (n := 7) (Nat.le_of_ble_eq_true rfl)
  rw [lg_entry_eq]
  generalize (lg_sl ([.ref (ad 1), .int (zI (c)), .int (zI (m))]) ++ List.replicate (7 - (lg_sl ([.ref (ad 1), .int (zI (c)), .int (zI (m))])).length) Slot.unset).toArray = ls at hl ⊢
  have hl : lv_has ls 7 [(0, .ref (ad 1)), (1, .int (zI (c))), (2, .int (zI (m)))] := hl
  refine lv_aload_n (pc := 0) hx hb dX6_present_0 rfl (lv_at hl 0 rfl) ?_
  refine lv_iload_n (pc := 1) hx hb dX6_present_1 rfl (lv_at hl 1 rfl) ?_
  refine lv_iload_n (pc := 2) hx hb dX6_present_2 rfl (lv_at hl 2 rfl) ?_
  refine zr_vi (pc := 3) (As := [.int (zI (c)), .int (zI (m))]) (rest := []) S (ct_X6_originalOf l D cI cT ad σ g hR hI c m (by omega) (by omega) (by omega) (by omega)) (cwV 2 hts gX6_present_X6_originalOf rfl rfl rfl (by decide +kernel) ⟨Nat.le_of_ble_eq_true rfl, Nat.le_of_ble_eq_true rfl⟩) zs0 hK hP (zr_recv hK (hP 1 (by decide)) rfl) rfl hl.1 rfl (Nat.le_of_ble_eq_true rfl) dX6_present_3 ⟨Nat.le_of_ble_eq_true rfl, Nat.le_of_ble_eq_true rfl⟩ (fun r_3 hr_3 => ?_)
  subst hr_3
  refine lv_istore_n (pc := 6) (lv' := [(3, .int (zI (gC g c m))), (0, .ref (ad 1)), (1, .int (zI (c))), (2, .int (zI (m)))]) hx hb dX6_present_6 rfl hl (by decide) rfl (fun ls hl => ?_)
  refine lv_aload_n (pc := 7) hx hb dX6_present_7 rfl (lv_at hl 1 rfl) ?_
  refine zr_get (pc := 8) S hK (hP 1 (by decide)) rfl i_X6 6 (by decide) (List.mem_of_getElem? (i := 1) rfl) rfl dX6_present_8 ?_
  refine lv_iload_n (pc := 11) hx hb dX6_present_11 rfl (lv_at hl 2 rfl) ?_
  refine zr_ni (pc := 12) (As := [.ref (ad 10), .int (zI (c))]) (rest := []) S (ct_X7_at l D cI cT (ad 10) 16 _ c (gC g c 7) (by decide) (by omega) (by omega) (rl_na hR h0 h1) (by omega)) (va_cnB 2 hts gX6_present_X7_at_n48 rfl rfl rfl (zK_nest hK 13 rfl) (hts _ (List.mem_of_getElem? (i := 11) rfl)) (by decide +kernel) ⟨Nat.le_of_ble_eq_true rfl, Nat.le_of_ble_eq_true rfl⟩) (hts _ (List.mem_of_getElem? (i := 10) rfl)) zs_ar hK (zAr_of (zK_int hK) (hP 10 (by decide))) rfl hl.1 rfl (Nat.le_of_ble_eq_true rfl) dX6_present_12 ⟨Nat.le_of_ble_eq_true rfl, Nat.le_of_ble_eq_true rfl⟩ (fun r_12 hr_12 => ?_)
  subst hr_12
  refine lv_istore (pc := 15) (lv' := [(4, .int (zI (gC g c 7))), (3, .int (zI (gC g c m))), (0, .ref (ad 1)), (1, .int (zI (c))), (2, .int (zI (m)))]) hx hb dX6_present_15 hl (by decide) rfl (fun ls hl => ?_)
  refine lv_iconst (pc := 17) (v := zI 0) hx hb dX6_present_17 rfl ?_
  refine lv_istore (pc := 18) (lv' := [(5, .int (zI (0))), (4, .int (zI (gC g c 7))), (3, .int (zI (gC g c m))), (0, .ref (ad 1)), (1, .int (zI (c))), (2, .int (zI (m)))]) hx hb dX6_present_18 hl (by decide) rfl (fun ls hl => ?_)
  refine zr_loop2 (fun (i : Nat) (x : Int) => ((i : Int) ≤ gC g c 7) ∧ (x = gC g c m + sm (fun k => ti (gM g c k = m) * gX g c k) i)) (fun (i : Nat) (x : Int) => (gC g c 7 : Int).toNat - i) (fun (i : Nat) (x : Int) => [(4, .int (zI (gC g c 7))), (0, .ref (ad 1)), (1, .int (zI (c))), (2, .int (zI (m))), (3, .int (zI (x))), (5, .int (zI ((i : Int))))]) ?_ (0) ((gC g c m)) (⟨by omega, by rw [sm_0]; omega⟩) (lv_sub hl [1, 3, 4, 5, 2, 0] rfl)
  intro i x hinv ih_20 ls hl
  obtain ⟨h_i, h_x⟩ := hinv
  refine lv_iload (pc := 20) hx hb dX6_present_20 (lv_at hl 5 rfl) ?_
  refine lv_iload (pc := 22) hx hb dX6_present_22 (lv_at hl 0 rfl) ?_
  refine zr_icmp_ge (pc := 24) (tgt := 67) hx hb dX6_present_24 (by decide) (by omega) (by omega) (fun c_24 => ?_) (fun c_24 => ?_)
  · refine lv_iload_n (pc := 67) hx hb dX6_present_67 rfl (lv_at hl 4 rfl) ?_
    exact W.iret (v := zI (x)) hx hb hr (fun tz ht hW => ⟨_, rfl, congrArg zI (by rw [h_x, show i = (gC g c 7).toNat by omega, pres]), ht⟩) (fun _ h => by cases h) dX6_present_68
  · refine lv_aload_n (pc := 27) hx hb dX6_present_27 rfl (lv_at hl 1 rfl) ?_
    refine lv_iload_n (pc := 28) hx hb dX6_present_28 rfl (lv_at hl 2 rfl) ?_
    refine lv_iload (pc := 29) hx hb dX6_present_29 (lv_at hl 5 rfl) ?_
    refine zr_vi (pc := 31) (As := [.int (zI (c)), .int (zI ((i : Int)))]) (rest := []) S (ct_X6_placeOf l D cI cT (ad 1) c ((i : Int))) (cwV 2 hts gX6_present_X6_placeOf rfl rfl rfl (by decide +kernel) ⟨Nat.le_of_ble_eq_true rfl, Nat.le_of_ble_eq_true rfl⟩) zs0 hK trivial (zr_recv hK (hP 1 (by decide)) rfl) rfl hl.1 rfl (Nat.le_of_ble_eq_true rfl) dX6_present_31 ⟨Nat.le_of_ble_eq_true rfl, Nat.le_of_ble_eq_true rfl⟩ (fun r_31 hr_31 => ?_)
    subst hr_31
    refine lv_istore (pc := 34) (lv' := [(6, .int (zI (c * 6 + ((i : Int))))), (4, .int (zI (gC g c 7))), (0, .ref (ad 1)), (1, .int (zI (c))), (2, .int (zI (m))), (3, .int (zI (x))), (5, .int (zI ((i : Int))))]) hx hb dX6_present_34 hl (by decide) rfl (fun ls hl => ?_)
    refine lv_aload_n (pc := 36) hx hb dX6_present_36 rfl (lv_at hl 2 rfl) ?_
    refine zr_get (pc := 37) S hK (hP 1 (by decide)) rfl i_X6 7 (by decide) (List.mem_of_getElem? (i := 2) rfl) rfl dX6_present_37 ?_
    refine lv_iload (pc := 40) hx hb dX6_present_40 (lv_at hl 0 rfl) ?_
    refine zr_ni (pc := 42) (As := [.ref (ad 11), .int (zI (c * 6 + ((i : Int))))]) (rest := []) S (ct_X7_at l D cI cT (ad 11) 96 _ (c * 6 + ((i : Int))) (gM g c i) (by decide) (by omega) (by omega) (rl_am hR h0 h1 (by omega) (by omega)) (by omega)) (va_cnB 2 hts gX6_present_X7_at_n48 rfl rfl rfl (zK_nest hK 13 rfl) (hts _ (List.mem_of_getElem? (i := 11) rfl)) (by decide +kernel) ⟨Nat.le_of_ble_eq_true rfl, Nat.le_of_ble_eq_true rfl⟩) (hts _ (List.mem_of_getElem? (i := 10) rfl)) zs_ar hK (zAr_of (zK_int hK) (hP 11 (by decide))) rfl hl.1 rfl (Nat.le_of_ble_eq_true rfl) dX6_present_42 ⟨Nat.le_of_ble_eq_true rfl, Nat.le_of_ble_eq_true rfl⟩ (fun r_42 hr_42 => ?_)
    subst hr_42
    have ham := iv_am hI h0 h1 (show 0 ≤ (i : Int) by omega) (by omega)
    refine lv_iload_n (pc := 45) hx hb dX6_present_45 rfl (lv_at hl 4 rfl) ?_
    refine zr_icmp_ne (pc := 46) (tgt := 61) hx hb dX6_present_46 (by decide) (by omega) (by omega) (fun c_46 => ?_) (fun c_46 => ?_)
    · refine zr_iinc (pc := 61) (d := ((i : Int)) + 1) (lv' := [(5, .int (zI (((i : Int)) + 1))), (6, .int (zI (c * 6 + ((i : Int))))), (4, .int (zI (gC g c 7))), (0, .ref (ad 1)), (1, .int (zI (c))), (2, .int (zI (m))), (3, .int (zI (x)))]) hx hb dX6_present_61 hl (k := 6) rfl rfl (by decide) rfl (fun ls hl => ?_)
      refine lv_goto (pc := 64) (tgt := 20) hx hb dX6_present_64 (by decide) ?_
      exact ih_20 (i + 1) (x) (⟨by omega, by rw [sm_s]; first | (rw [ti_t c_46]; omega) | (rw [ti_f c_46]; omega)⟩) (by omega) ls (lv_sub hl [2, 3, 4, 5, 6, 0] rfl)
    · refine lv_iload_n (pc := 49) hx hb dX6_present_49 rfl (lv_at hl 5 rfl) ?_
      refine lv_aload_n (pc := 50) hx hb dX6_present_50 rfl (lv_at hl 2 rfl) ?_
      refine zr_get (pc := 51) S hK (hP 1 (by decide)) rfl i_X6 8 (by decide) (List.mem_of_getElem? (i := 3) rfl) rfl dX6_present_51 ?_
      refine lv_iload (pc := 54) hx hb dX6_present_54 (lv_at hl 0 rfl) ?_
      refine zr_ni (pc := 56) (As := [.ref (ad 12), .int (zI (c * 6 + ((i : Int))))]) (rest := [.int (zI (x))]) S (ct_X7_at l D cI cT (ad 12) 96 _ (c * 6 + ((i : Int))) (gX g c i) (by decide) (by omega) (by omega) (rl_ac hR h0 h1 (by omega) (by omega)) (by omega)) (va_cnB 2 hts gX6_present_X7_at_n48 rfl rfl rfl (zK_nest hK 13 rfl) (hts _ (List.mem_of_getElem? (i := 11) rfl)) (by decide +kernel) ⟨Nat.le_of_ble_eq_true rfl, Nat.le_of_ble_eq_true rfl⟩) (hts _ (List.mem_of_getElem? (i := 10) rfl)) zs_ar hK (zAr_of (zK_int hK) (hP 12 (by decide))) rfl hl.1 rfl (Nat.le_of_ble_eq_true rfl) dX6_present_56 ⟨Nat.le_of_ble_eq_true rfl, Nat.le_of_ble_eq_true rfl⟩ (fun r_56 hr_56 => ?_)
      subst hr_56
      refine zr_iadd (pc := 59) (d := x + (gX g c i)) hx hb dX6_present_59 rfl ?_
      refine lv_istore_n (pc := 60) (lv' := [(3, .int (zI (x + (gX g c i)))), (6, .int (zI (c * 6 + ((i : Int))))), (4, .int (zI (gC g c 7))), (0, .ref (ad 1)), (1, .int (zI (c))), (2, .int (zI (m))), (5, .int (zI ((i : Int))))]) hx hb dX6_present_60 rfl hl (by decide) rfl (fun ls hl => ?_)
      refine zr_iinc (pc := 61) (d := ((i : Int)) + 1) (lv' := [(5, .int (zI (((i : Int)) + 1))), (3, .int (zI (x + (gX g c i)))), (6, .int (zI (c * 6 + ((i : Int))))), (4, .int (zI (gC g c 7))), (0, .ref (ad 1)), (1, .int (zI (c))), (2, .int (zI (m)))]) hx hb dX6_present_61 hl (k := 6) rfl rfl (by decide) rfl (fun ls hl => ?_)
      refine lv_goto (pc := 64) (tgt := 20) hx hb dX6_present_64 (by decide) ?_
      exact ih_20 (i + 1) ((x + (gX g c i))) (⟨by omega, by rw [sm_s]; first | (rw [ti_t c_46]; omega) | (rw [ti_f c_46]; omega)⟩) (by omega) ls (lv_sub hl [3, 4, 5, 6, 1, 0] rfl)
set_option maxHeartbeats 4000000 in
set_option maxRecDepth 100000 in
theorem ct_X6_allows (l : Launch) (D : va_G) (cI cT : ClassId) (ad : Nat → Nat) (σ : Nat → Int → Int) (g : Int → Int) (hR : Rel σ g) (hI : Inv g) (c : Int) (m : Int) (d : Int) (h0 : 0 ≤ c) (h1 : c < g 0) (m0 : 0 ≤ m) (m1 : m < 3) (d0 : -1000 ≤ d) (d1 : d ≤ 1000) : zMr l yX6_allows wsX6_allows ({ frames := 3, cells := 0, slots := 0, locals := 69 }) D cI cT [.ref (ad 1), .int (zI (c)), .int (zI (m)), .int (zI (d))] (fun _ H => zW D ad 20 (sC cI ad σ) H) (fun r => bz (alw g (pres g c m) c m d) r) := by
  refine Met.ofW (cc := cX6_allows) (maxL := 6) (ret := (some .boolean)) (by decide) rfl ?_
  intro p_ e_ s m_ args below meth c_ s₁ B hml hv
  obtain ⟨rfl, hK, hF⟩ := hv
  have hx := B.exec
  have hb := B.bytes
  have hr := B.returns
  have hts := atoms_spec (ws := wsX6_allows) B.pre
  have hown : s.vm.findClass RX6 = some m_.cls := findClass_of_methodNamed B.named
  have hlocks := B.notSynchronized
  have S : CallFix p_ m_ c_ cX6_allows 6 s _ wsX6_allows RX6 := ⟨hx, hb, hml, hown, hts⟩
  have i_X6 : ∀ w ∈ u_ws RX6 TX6 9, w ∈ wsX6_allows := fun _ h => List.mem_cons_of_mem _ (List.mem_append_right _ h)
  have hP := hF
  have hnC := iv_nC hI
  have hal := iv_al hI h0 h1
  have hor := iv_or hI h0 h1 m0 m1
  have hl := lv_entry ([.ref (ad 1), .int (zI (c)), .int (zI (m)), .int (zI (d))]) (n := 6) (Nat.le_of_ble_eq_true rfl)
  rw [lg_entry_eq]
  generalize (lg_sl ([.ref (ad 1), .int (zI (c)), .int (zI (m)), .int (zI (d))]) ++ List.replicate (6 - (lg_sl ([.ref (ad 1), .int (zI (c)), .int (zI (m)), .int (zI (d))])).length) Slot.unset).toArray = ls at hl ⊢
  have hl : lv_has ls 6 [(0, .ref (ad 1)), (1, .int (zI (c))), (2, .int (zI (m))), (3, .int (zI (d)))] := hl
  refine lv_aload_n (pc := 0) hx hb dX6_allows_0 rfl (lv_at hl 0 rfl) ?_
  refine lv_iload_n (pc := 1) hx hb dX6_allows_1 rfl (lv_at hl 1 rfl) ?_
  refine lv_iload_n (pc := 2) hx hb dX6_allows_2 rfl (lv_at hl 2 rfl) ?_
  refine zr_vi (pc := 3) (As := [.int (zI (c)), .int (zI (m))]) (rest := []) S (ct_X6_originalOf l D cI cT ad σ g hR hI c m (by omega) (by omega) (by omega) (by omega)) (cwV 2 hts gX6_allows_X6_originalOf rfl rfl rfl (by decide +kernel) ⟨Nat.le_of_ble_eq_true rfl, Nat.le_of_ble_eq_true rfl⟩) zs0 hK hP (zr_recv hK (hP 1 (by decide)) rfl) rfl hl.1 rfl (Nat.le_of_ble_eq_true rfl) dX6_allows_3 ⟨Nat.le_of_ble_eq_true rfl, Nat.le_of_ble_eq_true rfl⟩ (fun r_3 hr_3 => ?_)
  subst hr_3
  refine lv_istore (pc := 6) (lv' := [(4, .int (zI (gC g c m))), (0, .ref (ad 1)), (1, .int (zI (c))), (2, .int (zI (m))), (3, .int (zI (d)))]) hx hb dX6_allows_6 hl (by decide) rfl (fun ls hl => ?_)
  refine lv_aload_n (pc := 8) hx hb dX6_allows_8 rfl (lv_at hl 1 rfl) ?_
  refine lv_iload_n (pc := 9) hx hb dX6_allows_9 rfl (lv_at hl 2 rfl) ?_
  refine lv_iload_n (pc := 10) hx hb dX6_allows_10 rfl (lv_at hl 3 rfl) ?_
  refine zr_vi (pc := 11) (As := [.int (zI (c)), .int (zI (m))]) (rest := []) S (ct_X6_present l D cI cT ad σ g hR hI c m (by omega) (by omega) (by omega) (by omega)) (cwV 2 hts gX6_allows_X6_present rfl rfl rfl (by decide +kernel) ⟨Nat.le_of_ble_eq_true rfl, Nat.le_of_ble_eq_true rfl⟩) zs0 hK hP (zr_recv hK (hP 1 (by decide)) rfl) rfl hl.1 rfl (Nat.le_of_ble_eq_true rfl) dX6_allows_11 ⟨Nat.le_of_ble_eq_true rfl, Nat.le_of_ble_eq_true rfl⟩ (fun r_11 hr_11 => ?_)
  subst hr_11
  have hp_11 := pres_bd hI (c := c) (m := m) (by omega) (by omega) (by omega) (by omega)
  refine lv_iload_n (pc := 14) hx hb dX6_allows_14 rfl (lv_at hl 4 rfl) ?_
  refine zr_iadd (pc := 15) (d := (pres g c m) + d) hx hb dX6_allows_15 rfl ?_
  refine lv_istore (pc := 16) (lv' := [(5, .int (zI ((pres g c m) + d))), (4, .int (zI (gC g c m))), (0, .ref (ad 1)), (1, .int (zI (c))), (2, .int (zI (m))), (3, .int (zI (d)))]) hx hb dX6_allows_16 hl (by decide) rfl (fun ls hl => ?_)
  refine lv_iload (pc := 18) hx hb dX6_allows_18 (lv_at hl 0 rfl) ?_
  refine lv_bipush (pc := 20) (v := zI 40) hx hb dX6_allows_20 zc_bipush_40 ?_
  refine zr_icmp_lt (pc := 22) (tgt := 55) hx hb dX6_allows_22 (by decide) (by omega) (by decide) (fun c_22 => ?_) (fun c_22 => ?_)
  · refine lv_iconst (pc := 55) (v := zI 0) hx hb dX6_allows_55 rfl ?_
    exact W.zret (ty := .boolean) (v := zI (0)) hx hb hr (by first | rfl | decide) (fun tz ht hW => ⟨_, rfl, bz_f (fun q => by have q1 := q.1; have q2 := q.2.1; have q3 := q.2.2; omega), ht⟩) (fun _ h => by cases h) dX6_allows_56
  · refine lv_iload (pc := 25) hx hb dX6_allows_25 (lv_at hl 0 rfl) ?_
    refine lv_iload (pc := 27) hx hb dX6_allows_27 (lv_at hl 1 rfl) ?_
    refine lv_bipush (pc := 29) (v := zI 20) hx hb dX6_allows_29 zc_bipush_20 ?_
    refine zr_isub (pc := 31) (d := (gC g c m) - 20) hx hb dX6_allows_31 rfl ?_
    refine zr_icmp_lt (pc := 32) (tgt := 55) hx hb dX6_allows_32 (by decide) (by omega) (by omega) (fun c_32 => ?_) (fun c_32 => ?_)
    · refine lv_iconst (pc := 55) (v := zI 0) hx hb dX6_allows_55 rfl ?_
      exact W.zret (ty := .boolean) (v := zI (0)) hx hb hr (by first | rfl | decide) (fun tz ht hW => ⟨_, rfl, bz_f (fun q => by have q1 := q.1; have q2 := q.2.1; have q3 := q.2.2; omega), ht⟩) (fun _ h => by cases h) dX6_allows_56
    · refine lv_iload (pc := 35) hx hb dX6_allows_35 (lv_at hl 0 rfl) ?_
      refine lv_iload (pc := 37) hx hb dX6_allows_37 (lv_at hl 1 rfl) ?_
      refine lv_aload_n (pc := 39) hx hb dX6_allows_39 rfl (lv_at hl 2 rfl) ?_
      refine zr_get (pc := 40) S hK (hP 1 (by decide)) rfl i_X6 2 (by decide) (List.mem_of_getElem? (i := 1) rfl) rfl dX6_allows_40 ?_
      refine lv_iload_n (pc := 43) hx hb dX6_allows_43 rfl (lv_at hl 3 rfl) ?_
      refine zr_ni (pc := 44) (As := [.ref (ad 6), .int (zI (c))]) (rest := [.int (zI (gC g c m)), .int (zI ((pres g c m) + d))]) S (ct_X7_at l D cI cT (ad 6) 16 _ c (gC g c 3) (by decide) (by omega) (by omega) (rl_al hR h0 h1) (by omega)) (va_cnB 2 hts gX6_allows_X7_at_n48 rfl rfl rfl (zK_nest hK 13 rfl) (hts _ (List.mem_of_getElem? (i := 9) rfl)) (by decide +kernel) ⟨Nat.le_of_ble_eq_true rfl, Nat.le_of_ble_eq_true rfl⟩) (hts _ (List.mem_of_getElem? (i := 8) rfl)) zs_ar hK (zAr_of (zK_int hK) (hP 6 (by decide))) rfl hl.1 rfl (Nat.le_of_ble_eq_true rfl) dX6_allows_44 ⟨Nat.le_of_ble_eq_true rfl, Nat.le_of_ble_eq_true rfl⟩ (fun r_44 hr_44 => ?_)
      subst hr_44
      refine zr_iadd (pc := 47) (d := (gC g c m) + (gC g c 3)) hx hb dX6_allows_47 rfl ?_
      refine zr_icmp_gt (pc := 48) (tgt := 55) hx hb dX6_allows_48 (by decide) (by omega) (by omega) (fun c_48 => ?_) (fun c_48 => ?_)
      · refine lv_iconst (pc := 55) (v := zI 0) hx hb dX6_allows_55 rfl ?_
        exact W.zret (ty := .boolean) (v := zI (0)) hx hb hr (by first | rfl | decide) (fun tz ht hW => ⟨_, rfl, bz_f (fun q => by have q1 := q.1; have q2 := q.2.1; have q3 := q.2.2; omega), ht⟩) (fun _ h => by cases h) dX6_allows_56
      · refine lv_iconst (pc := 51) (v := zI 1) hx hb dX6_allows_51 rfl ?_
        refine lv_goto (pc := 52) (tgt := 56) hx hb dX6_allows_52 (by decide) ?_
        exact W.zret (ty := .boolean) (v := zI (1)) hx hb hr (by first | rfl | decide) (fun tz ht hW => ⟨_, rfl, bz_t ⟨by omega, by omega, by omega⟩, ht⟩) (fun _ h => by cases h) dX6_allows_56
set_option maxHeartbeats 4000000 in
set_option maxRecDepth 100000 in
theorem ct_X6_roomForAlterations (l : Launch) (D : va_G) (cI cT : ClassId) (ad : Nat → Nat) (σ : Nat → Int → Int) (g : Int → Int) (hR : Rel σ g) (hI : Inv g) (c : Int) (h0 : 0 ≤ c) (h1 : c < g 0) : zMr l yX6_roomForAlterations wsX6_roomForAlterations ({ frames := 1, cells := 0, slots := 0, locals := 21 }) D cI cT [.ref (ad 1), .int (zI (c))] (fun _ H => zW D ad 20 (sC cI ad σ) H) (fun r => r = zI (6 - gC g c 7)) := by
  refine Met.ofW (cc := cX6_roomForAlterations) (maxL := 2) (ret := (some .int)) (by decide) rfl ?_
  intro p_ e_ s m_ args below meth c_ s₁ B hml hv
  obtain ⟨rfl, hK, hF⟩ := hv
  have hx := B.exec
  have hb := B.bytes
  have hr := B.returns
  have hts := atoms_spec (ws := wsX6_roomForAlterations) B.pre
  have hown : s.vm.findClass RX6 = some m_.cls := findClass_of_methodNamed B.named
  have hlocks := B.notSynchronized
  have S : CallFix p_ m_ c_ cX6_roomForAlterations 2 s _ wsX6_roomForAlterations RX6 := ⟨hx, hb, hml, hown, hts⟩
  have i_X6 : ∀ w ∈ u_ws RX6 TX6 9, w ∈ wsX6_roomForAlterations := fun _ h => List.mem_cons_of_mem _ (List.mem_append_right _ h)
  have hP := hF
  have hnC := iv_nC hI
  have hl := lv_entry ([.ref (ad 1), .int (zI (c))]) (n := 2) (Nat.le_of_ble_eq_true rfl)
  rw [lg_entry_eq]
  generalize (lg_sl ([.ref (ad 1), .int (zI (c))]) ++ List.replicate (2 - (lg_sl ([.ref (ad 1), .int (zI (c))])).length) Slot.unset).toArray = ls at hl ⊢
  have hl : lv_has ls 2 [(0, .ref (ad 1)), (1, .int (zI (c)))] := hl
  refine lv_bipush (pc := 0) (v := zI 6) hx hb dX6_roomForAlterations_0 zc_bipush_6 ?_
  refine lv_aload_n (pc := 2) hx hb dX6_roomForAlterations_2 rfl (lv_at hl 0 rfl) ?_
  refine zr_get (pc := 3) S hK (hP 1 (by decide)) rfl i_X6 6 (by decide) (List.mem_of_getElem? (i := 1) rfl) rfl dX6_roomForAlterations_3 ?_
  refine lv_iload_n (pc := 6) hx hb dX6_roomForAlterations_6 rfl (lv_at hl 1 rfl) ?_
  refine zr_ni (pc := 7) (As := [.ref (ad 10), .int (zI (c))]) (rest := [.int (zI (6))]) S (ct_X7_at l D cI cT (ad 10) 16 _ c (gC g c 7) (by decide) (by omega) (by omega) (rl_na hR h0 h1) (by omega)) (va_cnB 2 hts gX6_roomForAlterations_X7_at_n48 rfl rfl rfl (zK_nest hK 13 rfl) (hts _ (List.mem_of_getElem? (i := 3) rfl)) (by decide +kernel) ⟨Nat.le_of_ble_eq_true rfl, Nat.le_of_ble_eq_true rfl⟩) (hts _ (List.mem_of_getElem? (i := 2) rfl)) zs_ar hK (zAr_of (zK_int hK) (hP 10 (by decide))) rfl hl.1 rfl (Nat.le_of_ble_eq_true rfl) dX6_roomForAlterations_7 ⟨Nat.le_of_ble_eq_true rfl, Nat.le_of_ble_eq_true rfl⟩ (fun r_7 hr_7 => ?_)
  subst hr_7
  refine zr_isub (pc := 10) (d := 6 - (gC g c 7)) hx hb dX6_roomForAlterations_10 rfl ?_
  exact W.iret (v := zI (6 - (gC g c 7))) hx hb hr (fun tz ht hW => ⟨_, rfl, congrArg zI (rfl), ht⟩) (fun _ h => by cases h) dX6_roomForAlterations_11
set_option maxHeartbeats 4000000 in
set_option maxRecDepth 100000 in
theorem ct_X6_canBeWashed (l : Launch) (D : va_G) (cI cT : ClassId) (bs : Nat) (ad : Nat → Nat) (σ : Nat → Int → Int) (g : Int → Int) (hR : Rel σ g) (hI : Inv g) (c : Int) (p : Int) (h0 : 0 ≤ c) (h1 : c < g 0) (p0 : 0 ≤ p) (p1 : p ≤ 3) : zMr l yX6_canBeWashed wsX6_canBeWashed ({ frames := 1, cells := 0, slots := 0, locals := 21 }) D cI cT [.ref (ad 1), .int (zI (c)), .int (zI (p))] (fun U H => zW D ad 20 (sC cI ad σ) H ∧ zT bs U H) (fun r => bz (cwP (gC g c 4) p) r) := by
  refine Met.ofW (cc := cX6_canBeWashed) (maxL := 3) (ret := (some .boolean)) (by decide) rfl ?_
  intro p_ e_ s m_ args below meth c_ s₁ B hml hv
  obtain ⟨rfl, hK, hF⟩ := hv
  have hx := B.exec
  have hb := B.bytes
  have hr := B.returns
  have hts := atoms_spec (ws := wsX6_canBeWashed) B.pre
  have hown : s.vm.findClass RX6 = some m_.cls := findClass_of_methodNamed B.named
  have hlocks := B.notSynchronized
  have S : CallFix p_ m_ c_ cX6_canBeWashed 3 s _ wsX6_canBeWashed RX6 := ⟨hx, hb, hml, hown, hts⟩
  have i_X6 : ∀ w ∈ u_ws RX6 TX6 9, w ∈ wsX6_canBeWashed := fun _ h => List.mem_cons_of_mem _ (List.mem_append_right _ h)
  have hP := hF.1
  have hT := hF.2
  obtain ⟨⟨tP, hZ_tP, _, hA_tP⟩, ⟨tD, hZ_tD, _, hA_tD⟩, ⟨tC, hZ_tC, _, hA_tC⟩⟩ := hT
  have hnC := iv_nC hI
  have hco := iv_co hI h0 h1
  have hcw : bit (tbP (gC g c 4)) p ↔ cwP (gC g c 4) p := cwt hco p0 p1
  have htb := tbP_bd (gC g c 4)
  have hl := lv_entry ([.ref (ad 1), .int (zI (c)), .int (zI (p))]) (n := 3) (Nat.le_of_ble_eq_true rfl)
  rw [lg_entry_eq]
  generalize (lg_sl ([.ref (ad 1), .int (zI (c)), .int (zI (p))]) ++ List.replicate (3 - (lg_sl ([.ref (ad 1), .int (zI (c)), .int (zI (p))])).length) Slot.unset).toArray = ls at hl ⊢
  have hl : lv_has ls 3 [(0, .ref (ad 1)), (1, .int (zI (c))), (2, .int (zI (p)))] := hl
  refine zr_getsN (pc := 0) S hZ_tP hK.2.2 dX6_canBeWashed_0 ?_
  refine lv_aload_n (pc := 3) hx hb dX6_canBeWashed_3 rfl (lv_at hl 0 rfl) ?_
  refine zr_get (pc := 4) S hK (hP 1 (by decide)) rfl i_X6 3 (by decide) (List.mem_of_getElem? (i := 1) rfl) rfl dX6_canBeWashed_4 ?_
  refine lv_iload_n (pc := 7) hx hb dX6_canBeWashed_7 rfl (lv_at hl 1 rfl) ?_
  refine zr_ni (pc := 8) (As := [.ref (ad 7), .int (zI (c))]) (rest := [.ref (tP)]) S (ct_X7_at l D cI cT (ad 7) 16 _ c (gC g c 4) (by decide) (by omega) (by omega) (rl_co hR h0 h1) (by omega)) (va_cnB 2 hts gX6_canBeWashed_X7_at_n48 rfl rfl rfl (zK_nest hK 13 rfl) (hts _ (List.mem_of_getElem? (i := 3) rfl)) (by decide +kernel) ⟨Nat.le_of_ble_eq_true rfl, Nat.le_of_ble_eq_true rfl⟩) (hts _ (List.mem_of_getElem? (i := 2) rfl)) zs_ar hK (zAr_of (zK_int hK) (hP 7 (by decide))) rfl hl.1 rfl (Nat.le_of_ble_eq_true rfl) dX6_canBeWashed_8 ⟨Nat.le_of_ble_eq_true rfl, Nat.le_of_ble_eq_true rfl⟩ (fun r_8 hr_8 => ?_)
  subst hr_8
  refine zr_ni (pc := 11) (As := [.ref (tP), .int (zI (gC g c 4))]) (rest := []) S (ct_X7_at l D cI cT (tP) 4 _ (gC g c 4) (tbP (gC g c 4)) (by decide) (by omega) (by omega) (rfl) (by omega)) (va_cnB 2 hts gX6_canBeWashed_X7_at_n48 rfl rfl rfl (zK_nest hK 13 rfl) (hts _ (List.mem_of_getElem? (i := 3) rfl)) (by decide +kernel) ⟨Nat.le_of_ble_eq_true rfl, Nat.le_of_ble_eq_true rfl⟩) (hts _ (List.mem_of_getElem? (i := 2) rfl)) zs_ar hK hA_tP rfl hl.1 rfl (Nat.le_of_ble_eq_true rfl) dX6_canBeWashed_11 ⟨Nat.le_of_ble_eq_true rfl, Nat.le_of_ble_eq_true rfl⟩ (fun r_11 hr_11 => ?_)
  subst hr_11
  refine lv_iload_n (pc := 14) hx hb dX6_canBeWashed_14 rfl (lv_at hl 2 rfl) ?_
  refine zr_ni (pc := 15) (As := [.int (zI (tbP (gC g c 4))), .int (zI (p))]) (rest := []) S (ct_X7_isIn l D cI cT (tbP (gC g c 4)) p (by omega) (by omega) (by omega) (by omega)) (va_cnB 2 hts gX6_canBeWashed_X7_isIn_n65 rfl rfl rfl (zK_nest hK 22 rfl) (hts _ (List.mem_of_getElem? (i := 3) rfl)) (by decide +kernel) ⟨Nat.le_of_ble_eq_true rfl, Nat.le_of_ble_eq_true rfl⟩) (hts _ (List.mem_of_getElem? (i := 5) rfl)) zs0 hK trivial rfl hl.1 rfl (Nat.le_of_ble_eq_true rfl) dX6_canBeWashed_15 ⟨Nat.le_of_ble_eq_true rfl, Nat.le_of_ble_eq_true rfl⟩ (fun r_15 hr_15 => ?_)
  rcases hr_15 with ⟨hb_15, rfl⟩ | ⟨hb_15, rfl⟩
  · exact W.zret (ty := .boolean) (v := zI (1)) hx hb hr (by first | rfl | decide) (fun tz ht hW => ⟨_, rfl, bz_t (hcw.mp hb_15), ht⟩) (fun _ h => by cases h) dX6_canBeWashed_18
  · exact W.zret (ty := .boolean) (v := zI (0)) hx hb hr (by first | rfl | decide) (fun tz ht hW => ⟨_, rfl, bz_f (fun q => hb_15 (hcw.mpr q)), ht⟩) (fun _ h => by cases h) dX6_canBeWashed_18
set_option maxHeartbeats 4000000 in
set_option maxRecDepth 100000 in
theorem ct_X0_measureOf (l : Launch) (D : va_G) (cI cT : ClassId) (ad : Nat → Nat) (σ : Nat → Int → Int) (g : Int → Int) (hR : Rel σ g) (hI : Inv g) (a : Int) (m : Int) (a0 : 0 ≤ a) (a1 : a < g 1) (m0 : 0 ≤ m) (m1 : m < 3) : zMr l yX0_measureOf wsX0_measureOf ({ frames := 1, cells := 0, slots := 0, locals := 21 }) D cI cT [.ref (ad 2), .int (zI (a)), .int (zI (m))] (fun _ H => zW D ad 20 (sC cI ad σ) H) (fun r => r = zI (gA g a m)) := by
  refine Met.ofW (cc := cX0_measureOf) (maxL := 3) (ret := (some .int)) (by decide) rfl ?_
  intro p_ e_ s m_ args below meth c_ s₁ B hml hv
  obtain ⟨rfl, hK, hF⟩ := hv
  have hx := B.exec
  have hb := B.bytes
  have hr := B.returns
  have hts := atoms_spec (ws := wsX0_measureOf) B.pre
  have hown : s.vm.findClass RX0 = some m_.cls := findClass_of_methodNamed B.named
  have hlocks := B.notSynchronized
  have S : CallFix p_ m_ c_ cX0_measureOf 3 s _ wsX0_measureOf RX0 := ⟨hx, hb, hml, hown, hts⟩
  have i_X0 : ∀ w ∈ u_ws RX0 TX0 3, w ∈ wsX0_measureOf := fun _ h => List.mem_cons_of_mem _ (List.mem_append_right _ h)
  have hP := hF
  have hnA := iv_nA hI
  have hl := lv_entry ([.ref (ad 2), .int (zI (a)), .int (zI (m))]) (n := 3) (Nat.le_of_ble_eq_true rfl)
  rw [lg_entry_eq]
  generalize (lg_sl ([.ref (ad 2), .int (zI (a)), .int (zI (m))]) ++ List.replicate (3 - (lg_sl ([.ref (ad 2), .int (zI (a)), .int (zI (m))])).length) Slot.unset).toArray = ls at hl ⊢
  have hl : lv_has ls 3 [(0, .ref (ad 2)), (1, .int (zI (a))), (2, .int (zI (m)))] := hl
  refine lv_aload_n (pc := 0) hx hb dX0_measureOf_0 rfl (lv_at hl 0 rfl) ?_
  refine zr_get (pc := 1) S hK (hP 2 (by decide)) rfl i_X0 1 (by decide) (List.mem_of_getElem? (i := 1) rfl) rfl dX0_measureOf_1 ?_
  refine lv_iload_n (pc := 4) hx hb dX0_measureOf_4 rfl (lv_at hl 1 rfl) ?_
  refine lv_iconst (pc := 5) (v := zI 3) hx hb dX0_measureOf_5 rfl ?_
  refine zr_imul (pc := 6) (d := a * 3) hx hb dX0_measureOf_6 rfl ?_
  refine lv_iload_n (pc := 7) hx hb dX0_measureOf_7 rfl (lv_at hl 2 rfl) ?_
  refine zr_iadd (pc := 8) (d := (a * 3) + m) hx hb dX0_measureOf_8 rfl ?_
  refine zr_ni (pc := 9) (As := [.ref (ad 13), .int (zI ((a * 3) + m))]) (rest := []) S (ct_X7_at l D cI cT (ad 13) 24 _ ((a * 3) + m) (gA g a m) (by decide) (by omega) (by omega) (rl_me hR a0 a1 m0 m1) (by omega)) (va_cnB 2 hts gX0_measureOf_X7_at_n30 rfl rfl rfl (zK_nest hK 18 rfl) (hts _ (List.mem_of_getElem? (i := 3) rfl)) (by decide +kernel) ⟨Nat.le_of_ble_eq_true rfl, Nat.le_of_ble_eq_true rfl⟩) (hts _ (List.mem_of_getElem? (i := 2) rfl)) zs_ar hK (zAr_of (zK_int hK) (hP 13 (by decide))) rfl hl.1 rfl (Nat.le_of_ble_eq_true rfl) dX0_measureOf_9 ⟨Nat.le_of_ble_eq_true rfl, Nat.le_of_ble_eq_true rfl⟩ (fun r_9 hr_9 => ?_)
  subst hr_9
  exact W.iret (v := zI (gA g a m)) hx hb hr (fun tz ht hW => ⟨_, rfl, congrArg zI (rfl), ht⟩) (fun _ h => by cases h) dX0_measureOf_12
set_option maxHeartbeats 4000000 in
set_option maxRecDepth 100000 in
theorem ct_X0_wornIn (l : Launch) (D : va_G) (cI cT : ClassId) (ad : Nat → Nat) (σ : Nat → Int → Int) (g : Int → Int) (hR : Rel σ g) (hI : Inv g) (sc : Int) (a : Int) (s0 : 0 ≤ sc) (s1 : sc < 12) (a0 : 0 ≤ a) (a1 : a < g 1) : zMr l yX0_wornIn wsX0_wornIn ({ frames := 1, cells := 0, slots := 0, locals := 21 }) D cI cT [.ref (ad 2), .int (zI (sc)), .int (zI (a))] (fun _ H => zW D ad 20 (sC cI ad σ) H) (fun r => r = zI (gW g sc a)) := by
  refine Met.ofW (cc := cX0_wornIn) (maxL := 3) (ret := (some .int)) (by decide) rfl ?_
  intro p_ e_ s m_ args below meth c_ s₁ B hml hv
  obtain ⟨rfl, hK, hF⟩ := hv
  have hx := B.exec
  have hb := B.bytes
  have hr := B.returns
  have hts := atoms_spec (ws := wsX0_wornIn) B.pre
  have hown : s.vm.findClass RX0 = some m_.cls := findClass_of_methodNamed B.named
  have hlocks := B.notSynchronized
  have S : CallFix p_ m_ c_ cX0_wornIn 3 s _ wsX0_wornIn RX0 := ⟨hx, hb, hml, hown, hts⟩
  have i_X0 : ∀ w ∈ u_ws RX0 TX0 3, w ∈ wsX0_wornIn := fun _ h => List.mem_cons_of_mem _ (List.mem_append_right _ h)
  have hP := hF
  have hnA := iv_nA hI
  have hl := lv_entry ([.ref (ad 2), .int (zI (sc)), .int (zI (a))]) (n := 3) (Nat.le_of_ble_eq_true rfl)
  rw [lg_entry_eq]
  generalize (lg_sl ([.ref (ad 2), .int (zI (sc)), .int (zI (a))]) ++ List.replicate (3 - (lg_sl ([.ref (ad 2), .int (zI (sc)), .int (zI (a))])).length) Slot.unset).toArray = ls at hl ⊢
  have hl : lv_has ls 3 [(0, .ref (ad 2)), (1, .int (zI (sc))), (2, .int (zI (a)))] := hl
  refine lv_aload_n (pc := 0) hx hb dX0_wornIn_0 rfl (lv_at hl 0 rfl) ?_
  refine zr_get (pc := 1) S hK (hP 2 (by decide)) rfl i_X0 2 (by decide) (List.mem_of_getElem? (i := 1) rfl) rfl dX0_wornIn_1 ?_
  refine lv_iload_n (pc := 4) hx hb dX0_wornIn_4 rfl (lv_at hl 1 rfl) ?_
  refine lv_bipush (pc := 5) (v := zI 8) hx hb dX0_wornIn_5 zc_bipush_8 ?_
  refine zr_imul (pc := 7) (d := sc * 8) hx hb dX0_wornIn_7 rfl ?_
  refine lv_iload_n (pc := 8) hx hb dX0_wornIn_8 rfl (lv_at hl 2 rfl) ?_
  refine zr_iadd (pc := 9) (d := (sc * 8) + a) hx hb dX0_wornIn_9 rfl ?_
  refine zr_ni (pc := 10) (As := [.ref (ad 14), .int (zI ((sc * 8) + a))]) (rest := []) S (ct_X7_at l D cI cT (ad 14) 96 _ ((sc * 8) + a) (gW g sc a) (by decide) (by omega) (by omega) (rl_wo hR a0 a1 s0 s1) (by omega)) (va_cnB 2 hts gX0_wornIn_X7_at_n30 rfl rfl rfl (zK_nest hK 18 rfl) (hts _ (List.mem_of_getElem? (i := 3) rfl)) (by decide +kernel) ⟨Nat.le_of_ble_eq_true rfl, Nat.le_of_ble_eq_true rfl⟩) (hts _ (List.mem_of_getElem? (i := 2) rfl)) zs_ar hK (zAr_of (zK_int hK) (hP 14 (by decide))) rfl hl.1 rfl (Nat.le_of_ble_eq_true rfl) dX0_wornIn_10 ⟨Nat.le_of_ble_eq_true rfl, Nat.le_of_ble_eq_true rfl⟩ (fun r_10 hr_10 => ?_)
  subst hr_10
  exact W.iret (v := zI (gW g sc a)) hx hb hr (fun tz ht hW => ⟨_, rfl, congrArg zI (rfl), ht⟩) (fun _ h => by cases h) dX0_wornIn_13
set_option maxHeartbeats 4000000 in
set_option maxRecDepth 100000 in
theorem ct_X0_wearers (l : Launch) (D : va_G) (cI cT : ClassId) (ad : Nat → Nat) (σ : Nat → Int → Int) (g : Int → Int) (hR : Rel σ g) (hI : Inv g) (sc : Int) (c : Int) (s0 : 0 ≤ sc) (s1 : sc < 12) (c0 : -1 ≤ c) (c1 : c ≤ 100) : zMr l yX0_wearers wsX0_wearers ({ frames := 2, cells := 0, slots := 0, locals := 43 }) D cI cT [.ref (ad 2), .int (zI (sc)), .int (zI (c))] (fun _ H => zW D ad 20 (sC cI ad σ) H) (fun r => r = zI (wrs g sc c)) := by
  refine Met.ofW (cc := cX0_wearers) (maxL := 5) (ret := (some .int)) (by decide) rfl ?_
  intro p_ e_ s m_ args below meth c_ s₁ B hml hv
  obtain ⟨rfl, hK, hF⟩ := hv
  have hx := B.exec
  have hb := B.bytes
  have hr := B.returns
  have hts := atoms_spec (ws := wsX0_wearers) B.pre
  have hown : s.vm.findClass RX0 = some m_.cls := findClass_of_methodNamed B.named
  have hlocks := B.notSynchronized
  have S : CallFix p_ m_ c_ cX0_wearers 5 s _ wsX0_wearers RX0 := ⟨hx, hb, hml, hown, hts⟩
  have i_X0 : ∀ w ∈ u_ws RX0 TX0 3, w ∈ wsX0_wearers := fun _ h => List.mem_cons_of_mem _ (List.mem_append_right _ h)
  have hP := hF
  have hnC := iv_nC hI
  have hnA := iv_nA hI
  have hl := lv_entry ([.ref (ad 2), .int (zI (sc)), .int (zI (c))]) (n := 5) (Nat.le_of_ble_eq_true rfl)
  rw [lg_entry_eq]
  generalize (lg_sl ([.ref (ad 2), .int (zI (sc)), .int (zI (c))]) ++ List.replicate (5 - (lg_sl ([.ref (ad 2), .int (zI (sc)), .int (zI (c))])).length) Slot.unset).toArray = ls at hl ⊢
  have hl : lv_has ls 5 [(0, .ref (ad 2)), (1, .int (zI (sc))), (2, .int (zI (c)))] := hl
  refine lv_iconst (pc := 0) (v := zI 0) hx hb dX0_wearers_0 rfl ?_
  refine lv_istore_n (pc := 1) (lv' := [(3, .int (zI (0))), (0, .ref (ad 2)), (1, .int (zI (sc))), (2, .int (zI (c)))]) hx hb dX0_wearers_1 rfl hl (by decide) rfl (fun ls hl => ?_)
  refine lv_iconst (pc := 2) (v := zI 0) hx hb dX0_wearers_2 rfl ?_
  refine lv_istore (pc := 3) (lv' := [(4, .int (zI (0))), (3, .int (zI (0))), (0, .ref (ad 2)), (1, .int (zI (sc))), (2, .int (zI (c)))]) hx hb dX0_wearers_3 hl (by decide) rfl (fun ls hl => ?_)
  refine zr_loop2 (fun (i : Nat) (x : Int) => ((i : Int) ≤ g 1) ∧ (x = sm (fun a => ti (gW g sc a = c)) i)) (fun (i : Nat) (x : Int) => (g 1 : Int).toNat - i) (fun (i : Nat) (x : Int) => [(0, .ref (ad 2)), (1, .int (zI (sc))), (2, .int (zI (c))), (3, .int (zI (x))), (4, .int (zI ((i : Int))))]) ?_ (0) (0) (⟨by omega, by rw [sm_0]⟩) (lv_sub hl [2, 3, 4, 1, 0] rfl)
  intro i x hinv ih_5 ls hl
  obtain ⟨h_i, h_x⟩ := hinv
  refine lv_iload (pc := 5) hx hb dX0_wearers_5 (lv_at hl 4 rfl) ?_
  refine lv_aload_n (pc := 7) hx hb dX0_wearers_7 rfl (lv_at hl 0 rfl) ?_
  refine zr_get (pc := 8) S hK (hP 2 (by decide)) rfl i_X0 0 (by decide) (List.mem_of_getElem? (i := 1) rfl) rfl dX0_wearers_8 ?_
  refine zr_top (b := g 1) (rl_nA hR) ?_
  refine zr_icmp_ge (pc := 11) (tgt := 34) hx hb dX0_wearers_11 (by decide) (by omega) (by omega) (fun c_11 => ?_) (fun c_11 => ?_)
  · refine lv_iload_n (pc := 34) hx hb dX0_wearers_34 rfl (lv_at hl 3 rfl) ?_
    exact W.iret (v := zI (x)) hx hb hr (fun tz ht hW => ⟨_, rfl, congrArg zI (by rw [h_x, show i = (g 1).toNat by omega, wrs]), ht⟩) (fun _ h => by cases h) dX0_wearers_35
  · refine lv_aload_n (pc := 14) hx hb dX0_wearers_14 rfl (lv_at hl 0 rfl) ?_
    refine lv_iload_n (pc := 15) hx hb dX0_wearers_15 rfl (lv_at hl 1 rfl) ?_
    refine lv_iload (pc := 16) hx hb dX0_wearers_16 (lv_at hl 4 rfl) ?_
    refine zr_vi (pc := 18) (As := [.int (zI (sc)), .int (zI ((i : Int)))]) (rest := []) S (ct_X0_wornIn l D cI cT ad σ g hR hI sc ((i : Int)) (by omega) (by omega) (by omega) (by omega)) (cwV 2 hts gX0_wearers_X0_wornIn rfl rfl rfl (by decide +kernel) ⟨Nat.le_of_ble_eq_true rfl, Nat.le_of_ble_eq_true rfl⟩) zs0 hK hP (zr_recv hK (hP 2 (by decide)) rfl) rfl hl.1 rfl (Nat.le_of_ble_eq_true rfl) dX0_wearers_18 ⟨Nat.le_of_ble_eq_true rfl, Nat.le_of_ble_eq_true rfl⟩ (fun r_18 hr_18 => ?_)
    subst hr_18
    have hw_18 := iv_wo hI (a := ((i : Int))) (sc := sc) (by omega) (by omega) (by omega) (by omega)
    refine lv_iload_n (pc := 21) hx hb dX0_wearers_21 rfl (lv_at hl 2 rfl) ?_
    refine zr_icmp_ne (pc := 22) (tgt := 28) hx hb dX0_wearers_22 (by decide) (by omega) (by omega) (fun c_22 => ?_) (fun c_22 => ?_)
    · refine zr_iinc (pc := 28) (d := ((i : Int)) + 1) (lv' := [(4, .int (zI (((i : Int)) + 1))), (0, .ref (ad 2)), (1, .int (zI (sc))), (2, .int (zI (c))), (3, .int (zI (x)))]) hx hb dX0_wearers_28 hl (k := 4) rfl rfl (by decide) rfl (fun ls hl => ?_)
      refine lv_goto (pc := 31) (tgt := 5) hx hb dX0_wearers_31 (by decide) ?_
      exact ih_5 (i + 1) (x) (⟨by omega, by rw [sm_s]; first | (rw [ti_t c_22]; omega) | (rw [ti_f c_22]; omega)⟩) (by omega) ls (lv_sub hl [1, 2, 3, 4, 0] rfl)
    · refine zr_iinc (pc := 25) (d := x + 1) (lv' := [(3, .int (zI (x + 1))), (0, .ref (ad 2)), (1, .int (zI (sc))), (2, .int (zI (c))), (4, .int (zI ((i : Int))))]) hx hb dX0_wearers_25 hl (k := 3) rfl rfl (by decide) rfl (fun ls hl => ?_)
      refine zr_iinc (pc := 28) (d := ((i : Int)) + 1) (lv' := [(4, .int (zI (((i : Int)) + 1))), (3, .int (zI (x + 1))), (0, .ref (ad 2)), (1, .int (zI (sc))), (2, .int (zI (c)))]) hx hb dX0_wearers_28 hl (k := 4) rfl rfl (by decide) rfl (fun ls hl => ?_)
      refine lv_goto (pc := 31) (tgt := 5) hx hb dX0_wearers_31 (by decide) ?_
      exact ih_5 (i + 1) ((x + 1)) (⟨by omega, by rw [sm_s]; first | (rw [ti_t c_22]; omega) | (rw [ti_f c_22]; omega)⟩) (by omega) ls (lv_sub hl [2, 3, 4, 1, 0] rfl)
set_option maxHeartbeats 4000000 in
set_option maxRecDepth 100000 in
theorem ct_X0_isWornByAnother (l : Launch) (D : va_G) (cI cT : ClassId) (ad : Nat → Nat) (σ : Nat → Int → Int) (g : Int → Int) (hR : Rel σ g) (hI : Inv g) (sc : Int) (a : Int) (c : Int) (s0 : 0 ≤ sc) (s1 : sc < 12) (a0 : 0 ≤ a) (a1 : a < g 1) (c0 : -1 ≤ c) (c1 : c ≤ 100) : zMr l yX0_isWornByAnother wsX0_isWornByAnother ({ frames := 3, cells := 0, slots := 0, locals := 67 }) D cI cT [.ref (ad 2), .int (zI (sc)), .int (zI (a)), .int (zI (c))] (fun _ H => zW D ad 20 (sC cI ad σ) H) (fun r => bz (ti (gW g sc a = c) < wrs g sc c) r) := by
  refine Met.ofW (cc := cX0_isWornByAnother) (maxL := 5) (ret := (some .boolean)) (by decide) rfl ?_
  intro p_ e_ s m_ args below meth c_ s₁ B hml hv
  obtain ⟨rfl, hK, hF⟩ := hv
  have hx := B.exec
  have hb := B.bytes
  have hr := B.returns
  have hts := atoms_spec (ws := wsX0_isWornByAnother) B.pre
  have hown : s.vm.findClass RX0 = some m_.cls := findClass_of_methodNamed B.named
  have hlocks := B.notSynchronized
  have S : CallFix p_ m_ c_ cX0_isWornByAnother 5 s _ wsX0_isWornByAnother RX0 := ⟨hx, hb, hml, hown, hts⟩
  have hP := hF
  have hnC := iv_nC hI
  have hnA := iv_nA hI
  have hl := lv_entry ([.ref (ad 2), .int (zI (sc)), .int (zI (a)), .int (zI (c))]) (n := 5) (Nat.le_of_ble_eq_true rfl)
  rw [lg_entry_eq]
  generalize (lg_sl ([.ref (ad 2), .int (zI (sc)), .int (zI (a)), .int (zI (c))]) ++ List.replicate (5 - (lg_sl ([.ref (ad 2), .int (zI (sc)), .int (zI (a)), .int (zI (c))])).length) Slot.unset).toArray = ls at hl ⊢
  have hl : lv_has ls 5 [(0, .ref (ad 2)), (1, .int (zI (sc))), (2, .int (zI (a))), (3, .int (zI (c)))] := hl
  refine lv_aload_n (pc := 0) hx hb dX0_isWornByAnother_0 rfl (lv_at hl 0 rfl) ?_
  refine lv_iload_n (pc := 1) hx hb dX0_isWornByAnother_1 rfl (lv_at hl 1 rfl) ?_
  refine lv_iload_n (pc := 2) hx hb dX0_isWornByAnother_2 rfl (lv_at hl 2 rfl) ?_
  refine zr_vi (pc := 3) (As := [.int (zI (sc)), .int (zI (a))]) (rest := []) S (ct_X0_wornIn l D cI cT ad σ g hR hI sc a (by omega) (by omega) (by omega) (by omega)) (cwV 2 hts gX0_isWornByAnother_X0_wornIn rfl rfl rfl (by decide +kernel) ⟨Nat.le_of_ble_eq_true rfl, Nat.le_of_ble_eq_true rfl⟩) zs0 hK hP (zr_recv hK (hP 2 (by decide)) rfl) rfl hl.1 rfl (Nat.le_of_ble_eq_true rfl) dX0_isWornByAnother_3 ⟨Nat.le_of_ble_eq_true rfl, Nat.le_of_ble_eq_true rfl⟩ (fun r_3 hr_3 => ?_)
  subst hr_3
  have hw_3 := iv_wo hI (a := a) (sc := sc) (by omega) (by omega) (by omega) (by omega)
  refine lv_iload_n (pc := 6) hx hb dX0_isWornByAnother_6 rfl (lv_at hl 3 rfl) ?_
  refine zr_icmp_ne (pc := 7) (tgt := 14) hx hb dX0_isWornByAnother_7 (by decide) (by omega) (by omega) (fun c_7 => ?_) (fun c_7 => ?_)
  · refine lv_iconst (pc := 14) (v := zI 0) hx hb dX0_isWornByAnother_14 rfl ?_
    refine lv_istore (pc := 15) (lv' := [(4, .int (zI (0))), (0, .ref (ad 2)), (1, .int (zI (sc))), (2, .int (zI (a))), (3, .int (zI (c)))]) hx hb dX0_isWornByAnother_15 hl (by decide) rfl (fun ls hl => ?_)
    refine lv_aload_n (pc := 17) hx hb dX0_isWornByAnother_17 rfl (lv_at hl 1 rfl) ?_
    refine lv_iload_n (pc := 18) hx hb dX0_isWornByAnother_18 rfl (lv_at hl 2 rfl) ?_
    refine lv_iload_n (pc := 19) hx hb dX0_isWornByAnother_19 rfl (lv_at hl 4 rfl) ?_
    refine zr_vi (pc := 20) (As := [.int (zI (sc)), .int (zI (c))]) (rest := []) S (ct_X0_wearers l D cI cT ad σ g hR hI sc c (by omega) (by omega) (by omega) (by omega)) (cwV 2 hts gX0_isWornByAnother_X0_wearers rfl rfl rfl (by decide +kernel) ⟨Nat.le_of_ble_eq_true rfl, Nat.le_of_ble_eq_true rfl⟩) zs0 hK hP (zr_recv hK (hP 2 (by decide)) rfl) rfl hl.1 rfl (Nat.le_of_ble_eq_true rfl) dX0_isWornByAnother_20 ⟨Nat.le_of_ble_eq_true rfl, Nat.le_of_ble_eq_true rfl⟩ (fun r_20 hr_20 => ?_)
    subst hr_20
    have hw_20 := wrs_bd hI (sc) (c)
    refine lv_iload (pc := 23) hx hb dX0_isWornByAnother_23 (lv_at hl 0 rfl) ?_
    refine zr_icmp_le (pc := 25) (tgt := 32) hx hb dX0_isWornByAnother_25 (by decide) (by omega) (by decide) (fun c_25 => ?_) (fun c_25 => ?_)
    · refine lv_iconst (pc := 32) (v := zI 0) hx hb dX0_isWornByAnother_32 rfl ?_
      exact W.zret (ty := .boolean) (v := zI (0)) hx hb hr (by first | rfl | decide) (fun tz ht hW => ⟨_, rfl, bz_f (by first | (rw [ti_t c_7]; omega) | (rw [ti_f c_7]; omega)), ht⟩) (fun _ h => by cases h) dX0_isWornByAnother_33
    · refine lv_iconst (pc := 28) (v := zI 1) hx hb dX0_isWornByAnother_28 rfl ?_
      refine lv_goto (pc := 29) (tgt := 33) hx hb dX0_isWornByAnother_29 (by decide) ?_
      exact W.zret (ty := .boolean) (v := zI (1)) hx hb hr (by first | rfl | decide) (fun tz ht hW => ⟨_, rfl, bz_t (by first | (rw [ti_t c_7]; omega) | (rw [ti_f c_7]; omega)), ht⟩) (fun _ h => by cases h) dX0_isWornByAnother_33
  · refine lv_iconst (pc := 10) (v := zI 1) hx hb dX0_isWornByAnother_10 rfl ?_
    refine lv_goto (pc := 11) (tgt := 15) hx hb dX0_isWornByAnother_11 (by decide) ?_
    refine lv_istore (pc := 15) (lv' := [(4, .int (zI (1))), (0, .ref (ad 2)), (1, .int (zI (sc))), (2, .int (zI (a))), (3, .int (zI (c)))]) hx hb dX0_isWornByAnother_15 hl (by decide) rfl (fun ls hl => ?_)
    refine lv_aload_n (pc := 17) hx hb dX0_isWornByAnother_17 rfl (lv_at hl 1 rfl) ?_
    refine lv_iload_n (pc := 18) hx hb dX0_isWornByAnother_18 rfl (lv_at hl 2 rfl) ?_
    refine lv_iload_n (pc := 19) hx hb dX0_isWornByAnother_19 rfl (lv_at hl 4 rfl) ?_
    refine zr_vi (pc := 20) (As := [.int (zI (sc)), .int (zI (c))]) (rest := []) S (ct_X0_wearers l D cI cT ad σ g hR hI sc c (by omega) (by omega) (by omega) (by omega)) (cwV 2 hts gX0_isWornByAnother_X0_wearers rfl rfl rfl (by decide +kernel) ⟨Nat.le_of_ble_eq_true rfl, Nat.le_of_ble_eq_true rfl⟩) zs0 hK hP (zr_recv hK (hP 2 (by decide)) rfl) rfl hl.1 rfl (Nat.le_of_ble_eq_true rfl) dX0_isWornByAnother_20 ⟨Nat.le_of_ble_eq_true rfl, Nat.le_of_ble_eq_true rfl⟩ (fun r_20 hr_20 => ?_)
    subst hr_20
    have hw_20 := wrs_bd hI (sc) (c)
    refine lv_iload (pc := 23) hx hb dX0_isWornByAnother_23 (lv_at hl 0 rfl) ?_
    refine zr_icmp_le (pc := 25) (tgt := 32) hx hb dX0_isWornByAnother_25 (by decide) (by omega) (by decide) (fun c_25 => ?_) (fun c_25 => ?_)
    · refine lv_iconst (pc := 32) (v := zI 0) hx hb dX0_isWornByAnother_32 rfl ?_
      exact W.zret (ty := .boolean) (v := zI (0)) hx hb hr (by first | rfl | decide) (fun tz ht hW => ⟨_, rfl, bz_f (by first | (rw [ti_t c_7]; omega) | (rw [ti_f c_7]; omega)), ht⟩) (fun _ h => by cases h) dX0_isWornByAnother_33
    · refine lv_iconst (pc := 28) (v := zI 1) hx hb dX0_isWornByAnother_28 rfl ?_
      refine lv_goto (pc := 29) (tgt := 33) hx hb dX0_isWornByAnother_29 (by decide) ?_
      exact W.zret (ty := .boolean) (v := zI (1)) hx hb hr (by first | rfl | decide) (fun tz ht hW => ⟨_, rfl, bz_t (by first | (rw [ti_t c_7]; omega) | (rw [ti_f c_7]; omega)), ht⟩) (fun _ h => by cases h) dX0_isWornByAnother_33
set_option maxHeartbeats 4000000 in
set_option maxRecDepth 100000 in
theorem ct_X0_scenesOf (l : Launch) (D : va_G) (cI cT : ClassId) (ad : Nat → Nat) (σ : Nat → Int → Int) (g : Int → Int) (hR : Rel σ g) (hI : Inv g) (c : Int) (c0 : -1 ≤ c) (c1 : c ≤ 100) : zMr l yX0_scenesOf wsX0_scenesOf ({ frames := 3, cells := 0, slots := 0, locals := 67 }) D cI cT [.ref (ad 2), .int (zI (c))] (fun _ H => zW D ad 20 (sC cI ad σ) H) (fun r => r = zI (scn g c)) := by
  refine Met.ofW (cc := cX0_scenesOf) (maxL := 4) (ret := (some .int)) (by decide) rfl ?_
  intro p_ e_ s m_ args below meth c_ s₁ B hml hv
  obtain ⟨rfl, hK, hF⟩ := hv
  have hx := B.exec
  have hb := B.bytes
  have hr := B.returns
  have hts := atoms_spec (ws := wsX0_scenesOf) B.pre
  have hown : s.vm.findClass RX0 = some m_.cls := findClass_of_methodNamed B.named
  have hlocks := B.notSynchronized
  have S : CallFix p_ m_ c_ cX0_scenesOf 4 s _ wsX0_scenesOf RX0 := ⟨hx, hb, hml, hown, hts⟩
  have hP := hF
  have hnC := iv_nC hI
  have hnA := iv_nA hI
  have hl := lv_entry ([.ref (ad 2), .int (zI (c))]) (n := 4) (Nat.le_of_ble_eq_true rfl)
  rw [lg_entry_eq]
  generalize (lg_sl ([.ref (ad 2), .int (zI (c))]) ++ List.replicate (4 - (lg_sl ([.ref (ad 2), .int (zI (c))])).length) Slot.unset).toArray = ls at hl ⊢
  have hl : lv_has ls 4 [(0, .ref (ad 2)), (1, .int (zI (c)))] := hl
  refine lv_iconst (pc := 0) (v := zI 0) hx hb dX0_scenesOf_0 rfl ?_
  refine lv_istore_n (pc := 1) (lv' := [(2, .int (zI (0))), (0, .ref (ad 2)), (1, .int (zI (c)))]) hx hb dX0_scenesOf_1 rfl hl (by decide) rfl (fun ls hl => ?_)
  refine lv_iconst (pc := 2) (v := zI 0) hx hb dX0_scenesOf_2 rfl ?_
  refine lv_istore_n (pc := 3) (lv' := [(3, .int (zI (0))), (2, .int (zI (0))), (0, .ref (ad 2)), (1, .int (zI (c)))]) hx hb dX0_scenesOf_3 rfl hl (by decide) rfl (fun ls hl => ?_)
  refine zr_loop2 (fun (i : Nat) (x : Int) => ((i : Int) ≤ 12) ∧ (x = sm (fun sc => ti (0 < wrs g sc c)) i)) (fun (i : Nat) (x : Int) => (12 : Int).toNat - i) (fun (i : Nat) (x : Int) => [(0, .ref (ad 2)), (1, .int (zI (c))), (2, .int (zI (x))), (3, .int (zI ((i : Int))))]) ?_ (0) (0) (⟨by omega, by rw [sm_0]⟩) (lv_sub hl [2, 3, 1, 0] rfl)
  intro i x hinv ih_4 ls hl
  obtain ⟨h_i, h_x⟩ := hinv
  refine lv_iload_n (pc := 4) hx hb dX0_scenesOf_4 rfl (lv_at hl 3 rfl) ?_
  refine lv_bipush (pc := 5) (v := zI 12) hx hb dX0_scenesOf_5 zc_bipush_12 ?_
  refine zr_icmp_ge (pc := 7) (tgt := 28) hx hb dX0_scenesOf_7 (by decide) (by omega) (by decide) (fun c_7 => ?_) (fun c_7 => ?_)
  · refine lv_iload_n (pc := 28) hx hb dX0_scenesOf_28 rfl (lv_at hl 2 rfl) ?_
    exact W.iret (v := zI (x)) hx hb hr (fun tz ht hW => ⟨_, rfl, congrArg zI (by rw [h_x, show i = 12 by omega, scn]), ht⟩) (fun _ h => by cases h) dX0_scenesOf_29
  · refine lv_aload_n (pc := 10) hx hb dX0_scenesOf_10 rfl (lv_at hl 0 rfl) ?_
    refine lv_iload_n (pc := 11) hx hb dX0_scenesOf_11 rfl (lv_at hl 3 rfl) ?_
    refine lv_iload_n (pc := 12) hx hb dX0_scenesOf_12 rfl (lv_at hl 1 rfl) ?_
    refine zr_vi (pc := 13) (As := [.int (zI ((i : Int))), .int (zI (c))]) (rest := []) S (ct_X0_wearers l D cI cT ad σ g hR hI ((i : Int)) c (by omega) (by omega) (by omega) (by omega)) (cwV 2 hts gX0_scenesOf_X0_wearers rfl rfl rfl (by decide +kernel) ⟨Nat.le_of_ble_eq_true rfl, Nat.le_of_ble_eq_true rfl⟩) zs0 hK hP (zr_recv hK (hP 2 (by decide)) rfl) rfl hl.1 rfl (Nat.le_of_ble_eq_true rfl) dX0_scenesOf_13 ⟨Nat.le_of_ble_eq_true rfl, Nat.le_of_ble_eq_true rfl⟩ (fun r_13 hr_13 => ?_)
    subst hr_13
    have hw_13 := wrs_bd hI (((i : Int))) (c)
    refine zr_if_le (pc := 16) (tgt := 22) hx hb dX0_scenesOf_16 (by decide) (by omega) (fun c_16 => ?_) (fun c_16 => ?_)
    · refine zr_iinc (pc := 22) (d := ((i : Int)) + 1) (lv' := [(3, .int (zI (((i : Int)) + 1))), (0, .ref (ad 2)), (1, .int (zI (c))), (2, .int (zI (x)))]) hx hb dX0_scenesOf_22 hl (k := 3) rfl rfl (by decide) rfl (fun ls hl => ?_)
      refine lv_goto (pc := 25) (tgt := 4) hx hb dX0_scenesOf_25 (by decide) ?_
      exact ih_4 (i + 1) (x) (⟨by omega, by rw [sm_s]; first | (rw [ti_t c_16]; omega) | (rw [ti_f (by omega)]; omega)⟩) (by omega) ls (lv_sub hl [1, 2, 3, 0] rfl)
    · refine zr_iinc (pc := 19) (d := x + 1) (lv' := [(2, .int (zI (x + 1))), (0, .ref (ad 2)), (1, .int (zI (c))), (3, .int (zI ((i : Int))))]) hx hb dX0_scenesOf_19 hl (k := 2) rfl rfl (by decide) rfl (fun ls hl => ?_)
      refine zr_iinc (pc := 22) (d := ((i : Int)) + 1) (lv' := [(3, .int (zI (((i : Int)) + 1))), (2, .int (zI (x + 1))), (0, .ref (ad 2)), (1, .int (zI (c)))]) hx hb dX0_scenesOf_22 hl (k := 3) rfl rfl (by decide) rfl (fun ls hl => ?_)
      refine lv_goto (pc := 25) (tgt := 4) hx hb dX0_scenesOf_25 (by decide) ?_
      exact ih_4 (i + 1) ((x + 1)) (⟨by omega, by rw [sm_s]; first | (rw [ti_t c_16]; omega) | (rw [ti_f (by omega)]; omega)⟩) (by omega) ls (lv_sub hl [2, 3, 1, 0] rfl)
set_option maxHeartbeats 4000000 in
set_option maxRecDepth 100000 in
theorem ct_X0_isHandedOver (l : Launch) (D : va_G) (cI cT : ClassId) (ad : Nat → Nat) (σ : Nat → Int → Int) (g : Int → Int) (hR : Rel σ g) (hI : Inv g) (sc : Int) (c : Int) (s0 : 0 ≤ sc) (s1 : sc < 11) (c0 : -1 ≤ c) (c1 : c ≤ 100) : zMr l yX0_isHandedOver wsX0_isHandedOver ({ frames := 3, cells := 0, slots := 0, locals := 67 }) D cI cT [.ref (ad 2), .int (zI (sc)), .int (zI (c))] (fun _ H => zW D ad 20 (sC cI ad σ) H) (fun r => bz (hnd g sc c) r) := by
  refine Met.ofW (cc := cX0_isHandedOver) (maxL := 4) (ret := (some .boolean)) (by decide) rfl ?_
  intro p_ e_ s m_ args below meth c_ s₁ B hml hv
  obtain ⟨rfl, hK, hF⟩ := hv
  have hx := B.exec
  have hb := B.bytes
  have hr := B.returns
  have hts := atoms_spec (ws := wsX0_isHandedOver) B.pre
  have hown : s.vm.findClass RX0 = some m_.cls := findClass_of_methodNamed B.named
  have hlocks := B.notSynchronized
  have S : CallFix p_ m_ c_ cX0_isHandedOver 4 s _ wsX0_isHandedOver RX0 := ⟨hx, hb, hml, hown, hts⟩
  have i_X0 : ∀ w ∈ u_ws RX0 TX0 3, w ∈ wsX0_isHandedOver := fun _ h => List.mem_cons_of_mem _ (List.mem_append_right _ h)
  have hP := hF
  have hnC := iv_nC hI
  have hnA := iv_nA hI
  have hl := lv_entry ([.ref (ad 2), .int (zI (sc)), .int (zI (c))]) (n := 4) (Nat.le_of_ble_eq_true rfl)
  rw [lg_entry_eq]
  generalize (lg_sl ([.ref (ad 2), .int (zI (sc)), .int (zI (c))]) ++ List.replicate (4 - (lg_sl ([.ref (ad 2), .int (zI (sc)), .int (zI (c))])).length) Slot.unset).toArray = ls at hl ⊢
  have hl : lv_has ls 4 [(0, .ref (ad 2)), (1, .int (zI (sc))), (2, .int (zI (c)))] := hl
  refine lv_aload_n (pc := 0) hx hb dX0_isHandedOver_0 rfl (lv_at hl 0 rfl) ?_
  refine lv_iload_n (pc := 1) hx hb dX0_isHandedOver_1 rfl (lv_at hl 1 rfl) ?_
  refine lv_iload_n (pc := 2) hx hb dX0_isHandedOver_2 rfl (lv_at hl 2 rfl) ?_
  refine zr_vi (pc := 3) (As := [.int (zI (sc)), .int (zI (c))]) (rest := []) S (ct_X0_wearers l D cI cT ad σ g hR hI sc c (by omega) (by omega) (by omega) (by omega)) (cwV 2 hts gX0_isHandedOver_X0_wearers rfl rfl rfl (by decide +kernel) ⟨Nat.le_of_ble_eq_true rfl, Nat.le_of_ble_eq_true rfl⟩) zs0 hK hP (zr_recv hK (hP 2 (by decide)) rfl) rfl hl.1 rfl (Nat.le_of_ble_eq_true rfl) dX0_isHandedOver_3 ⟨Nat.le_of_ble_eq_true rfl, Nat.le_of_ble_eq_true rfl⟩ (fun r_3 hr_3 => ?_)
  subst hr_3
  have hw_3 := wrs_bd hI (sc) (c)
  refine zr_if_ne (pc := 6) (tgt := 11) hx hb dX0_isHandedOver_6 (by decide) (by omega) (fun c_6 => ?_) (fun c_6 => ?_)
  · refine lv_iconst (pc := 11) (v := zI 0) hx hb dX0_isHandedOver_11 rfl ?_
    refine lv_istore_n (pc := 12) (lv' := [(3, .int (zI (0))), (0, .ref (ad 2)), (1, .int (zI (sc))), (2, .int (zI (c)))]) hx hb dX0_isHandedOver_12 rfl hl (by decide) rfl (fun ls hl => ?_)
    refine zr_loop1 (fun (i : Nat) => ((i : Int) ≤ g 1) ∧ (∀ b : Int, 0 ≤ b → b < (i : Int) → gW g (sc + 1) b = c → gW g sc b = c)) (fun (i : Nat) => (g 1 : Int).toNat - i) (fun (i : Nat) => [(0, .ref (ad 2)), (1, .int (zI (sc))), (2, .int (zI (c))), (3, .int (zI ((i : Int))))]) ?_ (0) (⟨by omega, fa_0⟩) (lv_sub hl [1, 2, 3, 0] rfl)
    intro i hinv ih_13 ls hl
    obtain ⟨h_i, h_n⟩ := hinv
    refine lv_iload_n (pc := 13) hx hb dX0_isHandedOver_13 rfl (lv_at hl 3 rfl) ?_
    refine lv_aload_n (pc := 14) hx hb dX0_isHandedOver_14 rfl (lv_at hl 0 rfl) ?_
    refine zr_get (pc := 15) S hK (hP 2 (by decide)) rfl i_X0 0 (by decide) (List.mem_of_getElem? (i := 1) rfl) rfl dX0_isHandedOver_15 ?_
    refine zr_top (b := g 1) (rl_nA hR) ?_
    refine zr_icmp_ge (pc := 18) (tgt := 51) hx hb dX0_isHandedOver_18 (by decide) (by omega) (by omega) (fun c_18 => ?_) (fun c_18 => ?_)
    · refine lv_iconst (pc := 51) (v := zI 0) hx hb dX0_isHandedOver_51 rfl ?_
      exact W.zret (ty := .boolean) (v := zI (0)) hx hb hr (by first | rfl | decide) (fun tz ht hW => ⟨_, rfl, bz_f (fun h => by obtain ⟨⟨b, b0, b1, b2, b3⟩, _⟩ := h; exact b3 (h_n b b0 (by omega) b2)), ht⟩) (fun _ h => by cases h) dX0_isHandedOver_52
    · refine lv_aload_n (pc := 21) hx hb dX0_isHandedOver_21 rfl (lv_at hl 0 rfl) ?_
      refine lv_iload_n (pc := 22) hx hb dX0_isHandedOver_22 rfl (lv_at hl 1 rfl) ?_
      refine lv_iconst (pc := 23) (v := zI 1) hx hb dX0_isHandedOver_23 rfl ?_
      refine zr_iadd (pc := 24) (d := sc + 1) hx hb dX0_isHandedOver_24 rfl ?_
      refine lv_iload_n (pc := 25) hx hb dX0_isHandedOver_25 rfl (lv_at hl 3 rfl) ?_
      refine zr_vi (pc := 26) (As := [.int (zI (sc + 1)), .int (zI ((i : Int)))]) (rest := []) S (ct_X0_wornIn l D cI cT ad σ g hR hI (sc + 1) ((i : Int)) (by omega) (by omega) (by omega) (by omega)) (cwV 2 hts gX0_isHandedOver_X0_wornIn rfl rfl rfl (by decide +kernel) ⟨Nat.le_of_ble_eq_true rfl, Nat.le_of_ble_eq_true rfl⟩) zs0 hK hP (zr_recv hK (hP 2 (by decide)) rfl) rfl hl.1 rfl (Nat.le_of_ble_eq_true rfl) dX0_isHandedOver_26 ⟨Nat.le_of_ble_eq_true rfl, Nat.le_of_ble_eq_true rfl⟩ (fun r_26 hr_26 => ?_)
      subst hr_26
      have hw_26 := iv_wo hI (a := ((i : Int))) (sc := (sc + 1)) (by omega) (by omega) (by omega) (by omega)
      refine lv_iload_n (pc := 29) hx hb dX0_isHandedOver_29 rfl (lv_at hl 2 rfl) ?_
      refine zr_icmp_ne (pc := 30) (tgt := 45) hx hb dX0_isHandedOver_30 (by decide) (by omega) (by omega) (fun c_30 => ?_) (fun c_30 => ?_)
      · refine zr_iinc (pc := 45) (d := ((i : Int)) + 1) (lv' := [(3, .int (zI (((i : Int)) + 1))), (0, .ref (ad 2)), (1, .int (zI (sc))), (2, .int (zI (c)))]) hx hb dX0_isHandedOver_45 hl (k := 3) rfl rfl (by decide) rfl (fun ls hl => ?_)
        refine lv_goto (pc := 48) (tgt := 13) hx hb dX0_isHandedOver_48 (by decide) ?_
        exact ih_13 (i + 1) (⟨by omega, fa_s h_n (fun b2 => by first | exact absurd b2 c_30 | exact c_40)⟩) (by omega) ls (lv_sub hl [1, 2, 3, 0] rfl)
      · refine lv_aload_n (pc := 33) hx hb dX0_isHandedOver_33 rfl (lv_at hl 0 rfl) ?_
        refine lv_iload_n (pc := 34) hx hb dX0_isHandedOver_34 rfl (lv_at hl 1 rfl) ?_
        refine lv_iload_n (pc := 35) hx hb dX0_isHandedOver_35 rfl (lv_at hl 3 rfl) ?_
        refine zr_vi (pc := 36) (As := [.int (zI (sc)), .int (zI ((i : Int)))]) (rest := []) S (ct_X0_wornIn l D cI cT ad σ g hR hI sc ((i : Int)) (by omega) (by omega) (by omega) (by omega)) (cwV 2 hts gX0_isHandedOver_X0_wornIn rfl rfl rfl (by decide +kernel) ⟨Nat.le_of_ble_eq_true rfl, Nat.le_of_ble_eq_true rfl⟩) zs0 hK hP (zr_recv hK (hP 2 (by decide)) rfl) rfl hl.1 rfl (Nat.le_of_ble_eq_true rfl) dX0_isHandedOver_36 ⟨Nat.le_of_ble_eq_true rfl, Nat.le_of_ble_eq_true rfl⟩ (fun r_36 hr_36 => ?_)
        subst hr_36
        have hw_36 := iv_wo hI (a := ((i : Int))) (sc := sc) (by omega) (by omega) (by omega) (by omega)
        refine lv_iload_n (pc := 39) hx hb dX0_isHandedOver_39 rfl (lv_at hl 2 rfl) ?_
        refine zr_icmp_eq (pc := 40) (tgt := 45) hx hb dX0_isHandedOver_40 (by decide) (by omega) (by omega) (fun c_40 => ?_) (fun c_40 => ?_)
        · refine zr_iinc (pc := 45) (d := ((i : Int)) + 1) (lv' := [(3, .int (zI (((i : Int)) + 1))), (0, .ref (ad 2)), (1, .int (zI (sc))), (2, .int (zI (c)))]) hx hb dX0_isHandedOver_45 hl (k := 3) rfl rfl (by decide) rfl (fun ls hl => ?_)
          refine lv_goto (pc := 48) (tgt := 13) hx hb dX0_isHandedOver_48 (by decide) ?_
          exact ih_13 (i + 1) (⟨by omega, fa_s h_n (fun b2 => by first | exact absurd b2 c_30 | exact c_40)⟩) (by omega) ls (lv_sub hl [1, 2, 3, 0] rfl)
        · refine lv_iconst (pc := 43) (v := zI 1) hx hb dX0_isHandedOver_43 rfl ?_
          exact W.zret (ty := .boolean) (v := zI (1)) hx hb hr (by first | rfl | decide) (fun tz ht hW => ⟨_, rfl, bz_t ⟨⟨i, by omega, by omega, c_30, c_40⟩, by omega⟩, ht⟩) (fun _ h => by cases h) dX0_isHandedOver_44
  · refine lv_iconst (pc := 9) (v := zI 0) hx hb dX0_isHandedOver_9 rfl ?_
    exact W.zret (ty := .boolean) (v := zI (0)) hx hb hr (by first | rfl | decide) (fun tz ht hW => ⟨_, rfl, bz_f (fun h => by have := h.2; omega), ht⟩) (fun _ h => by cases h) dX0_isHandedOver_10
set_option maxHeartbeats 4000000 in
set_option maxRecDepth 100000 in
theorem ct_X0_quickChanges (l : Launch) (D : va_G) (cI cT : ClassId) (ad : Nat → Nat) (σ : Nat → Int → Int) (g : Int → Int) (hR : Rel σ g) (hI : Inv g)   : zMr l yX0_quickChanges wsX0_quickChanges ({ frames := 2, cells := 0, slots := 0, locals := 43 }) D cI cT [.ref (ad 2)] (fun _ H => zW D ad 20 (sC cI ad σ) H) (fun r => r = zI (qcks g)) := by
  refine Met.ofW (cc := cX0_quickChanges) (maxL := 6) (ret := (some .int)) (by decide) rfl ?_
  intro p_ e_ s m_ args below meth c_ s₁ B hml hv
  obtain ⟨rfl, hK, hF⟩ := hv
  have hx := B.exec
  have hb := B.bytes
  have hr := B.returns
  have hts := atoms_spec (ws := wsX0_quickChanges) B.pre
  have hown : s.vm.findClass RX0 = some m_.cls := findClass_of_methodNamed B.named
  have hlocks := B.notSynchronized
  have S : CallFix p_ m_ c_ cX0_quickChanges 6 s _ wsX0_quickChanges RX0 := ⟨hx, hb, hml, hown, hts⟩
  have i_X0 : ∀ w ∈ u_ws RX0 TX0 3, w ∈ wsX0_quickChanges := fun _ h => List.mem_cons_of_mem _ (List.mem_append_right _ h)
  have hP := hF
  have hnA := iv_nA hI
  have hnC := iv_nC hI
  have hl := lv_entry ([.ref (ad 2)]) (n := 6) (Nat.le_of_ble_eq_true rfl)
  rw [lg_entry_eq]
  generalize (lg_sl ([.ref (ad 2)]) ++ List.replicate (6 - (lg_sl ([.ref (ad 2)])).length) Slot.unset).toArray = ls at hl ⊢
  have hl : lv_has ls 6 [(0, .ref (ad 2))] := hl
  refine lv_iconst (pc := 0) (v := zI 0) hx hb dX0_quickChanges_0 rfl ?_
  refine lv_istore_n (pc := 1) (lv' := [(1, .int (zI (0))), (0, .ref (ad 2))]) hx hb dX0_quickChanges_1 rfl hl (by decide) rfl (fun ls hl => ?_)
  refine lv_iconst (pc := 2) (v := zI 0) hx hb dX0_quickChanges_2 rfl ?_
  refine lv_istore_n (pc := 3) (lv' := [(2, .int (zI (0))), (1, .int (zI (0))), (0, .ref (ad 2))]) hx hb dX0_quickChanges_3 rfl hl (by decide) rfl (fun ls hl => ?_)
  refine zr_loop2 (fun (i : Nat) (x : Int) => ((i : Int) ≤ 11) ∧ (x = sm (fun sc => sm (fun a => ti (qck g sc a)) (g 1).toNat) i)) (fun (i : Nat) (x : Int) => (11 : Int).toNat - i) (fun (i : Nat) (x : Int) => [(0, .ref (ad 2)), (1, .int (zI (x))), (2, .int (zI ((i : Int))))]) ?_ (0) (0) (⟨by omega, by rw [sm_0]⟩) (lv_sub hl [2, 1, 0] rfl)
  intro i x hinv ih_4 ls hl
  obtain ⟨h_i, h_x⟩ := hinv
  refine lv_iload_n (pc := 4) hx hb dX0_quickChanges_4 rfl (lv_at hl 2 rfl) ?_
  refine lv_iconst (pc := 5) (v := zI 1) hx hb dX0_quickChanges_5 rfl ?_
  refine zr_iadd (pc := 6) (d := ((i : Int)) + 1) hx hb dX0_quickChanges_6 rfl ?_
  refine lv_bipush (pc := 7) (v := zI 12) hx hb dX0_quickChanges_7 zc_bipush_12 ?_
  refine zr_icmp_ge (pc := 9) (tgt := 74) hx hb dX0_quickChanges_9 (by decide) (by omega) (by decide) (fun c_9 => ?_) (fun c_9 => ?_)
  · refine lv_iload_n (pc := 74) hx hb dX0_quickChanges_74 rfl (lv_at hl 1 rfl) ?_
    exact W.iret (v := zI (x)) hx hb hr (fun tz ht hW => ⟨_, rfl, congrArg zI (by rw [h_x, show i = 11 by omega, qcks]), ht⟩) (fun _ h => by cases h) dX0_quickChanges_75
  · refine lv_iconst (pc := 12) (v := zI 0) hx hb dX0_quickChanges_12 rfl ?_
    refine lv_istore_n (pc := 13) (lv' := [(3, .int (zI (0))), (0, .ref (ad 2)), (1, .int (zI (x))), (2, .int (zI ((i : Int))))]) hx hb dX0_quickChanges_13 rfl hl (by decide) rfl (fun ls hl => ?_)
    refine zr_loop2 (fun (j : Nat) (y : Int) => ((j : Int) ≤ g 1) ∧ (y = x + sm (fun a => ti (qck g i a)) j)) (fun (j : Nat) (y : Int) => (g 1 : Int).toNat - j) (fun (j : Nat) (y : Int) => [(0, .ref (ad 2)), (2, .int (zI ((i : Int)))), (1, .int (zI (y))), (3, .int (zI ((j : Int))))]) ?_ (0) (x) (⟨by omega, by rw [sm_0]; omega⟩) (lv_sub hl [1, 3, 2, 0] rfl)
    intro j y hinv ih_14 ls hl
    obtain ⟨h_j, h_y⟩ := hinv
    refine lv_iload_n (pc := 14) hx hb dX0_quickChanges_14 rfl (lv_at hl 3 rfl) ?_
    refine lv_aload_n (pc := 15) hx hb dX0_quickChanges_15 rfl (lv_at hl 0 rfl) ?_
    refine zr_get (pc := 16) S hK (hP 2 (by decide)) rfl i_X0 0 (by decide) (List.mem_of_getElem? (i := 1) rfl) rfl dX0_quickChanges_16 ?_
    refine zr_top (b := g 1) (rl_nA hR) ?_
    refine zr_icmp_ge (pc := 19) (tgt := 68) hx hb dX0_quickChanges_19 (by decide) (by omega) (by omega) (fun c_19 => ?_) (fun c_19 => ?_)
    · refine zr_iinc (pc := 68) (d := ((i : Int)) + 1) (lv' := [(2, .int (zI (((i : Int)) + 1))), (0, .ref (ad 2)), (1, .int (zI (y))), (3, .int (zI ((j : Int))))]) hx hb dX0_quickChanges_68 hl (k := 1) rfl rfl (by decide) rfl (fun ls hl => ?_)
      refine lv_goto (pc := 71) (tgt := 4) hx hb dX0_quickChanges_71 (by decide) ?_
      exact ih_4 (i + 1) (y) (⟨by omega, by rw [sm_s, h_y, h_x, show j = (g 1).toNat by omega]⟩) (by omega) ls (lv_sub hl [1, 2, 0] rfl)
    · refine lv_aload_n (pc := 22) hx hb dX0_quickChanges_22 rfl (lv_at hl 0 rfl) ?_
      refine lv_iload_n (pc := 23) hx hb dX0_quickChanges_23 rfl (lv_at hl 1 rfl) ?_
      refine lv_iload_n (pc := 24) hx hb dX0_quickChanges_24 rfl (lv_at hl 3 rfl) ?_
      refine zr_vi (pc := 25) (As := [.int (zI ((i : Int))), .int (zI ((j : Int)))]) (rest := []) S (ct_X0_wornIn l D cI cT ad σ g hR hI ((i : Int)) ((j : Int)) (by omega) (by omega) (by omega) (by omega)) (cwV 2 hts gX0_quickChanges_X0_wornIn rfl rfl rfl (by decide +kernel) ⟨Nat.le_of_ble_eq_true rfl, Nat.le_of_ble_eq_true rfl⟩) zs0 hK hP (zr_recv hK (hP 2 (by decide)) rfl) rfl hl.1 rfl (Nat.le_of_ble_eq_true rfl) dX0_quickChanges_25 ⟨Nat.le_of_ble_eq_true rfl, Nat.le_of_ble_eq_true rfl⟩ (fun r_25 hr_25 => ?_)
      subst hr_25
      have hw_25 := iv_wo hI (a := ((j : Int))) (sc := ((i : Int))) (by omega) (by omega) (by omega) (by omega)
      refine lv_istore (pc := 28) (lv' := [(4, .int (zI (gW g ((i : Int)) ((j : Int))))), (0, .ref (ad 2)), (2, .int (zI ((i : Int)))), (1, .int (zI (y))), (3, .int (zI ((j : Int))))]) hx hb dX0_quickChanges_28 hl (by decide) rfl (fun ls hl => ?_)
      refine lv_aload_n (pc := 30) hx hb dX0_quickChanges_30 rfl (lv_at hl 1 rfl) ?_
      refine lv_iload_n (pc := 31) hx hb dX0_quickChanges_31 rfl (lv_at hl 2 rfl) ?_
      refine lv_iconst (pc := 32) (v := zI 1) hx hb dX0_quickChanges_32 rfl ?_
      refine zr_iadd (pc := 33) (d := ((i : Int)) + 1) hx hb dX0_quickChanges_33 rfl ?_
      refine lv_iload_n (pc := 34) hx hb dX0_quickChanges_34 rfl (lv_at hl 4 rfl) ?_
      refine zr_vi (pc := 35) (As := [.int (zI (((i : Int)) + 1)), .int (zI ((j : Int)))]) (rest := []) S (ct_X0_wornIn l D cI cT ad σ g hR hI (((i : Int)) + 1) ((j : Int)) (by omega) (by omega) (by omega) (by omega)) (cwV 2 hts gX0_quickChanges_X0_wornIn rfl rfl rfl (by decide +kernel) ⟨Nat.le_of_ble_eq_true rfl, Nat.le_of_ble_eq_true rfl⟩) zs0 hK hP (zr_recv hK (hP 2 (by decide)) rfl) rfl hl.1 rfl (Nat.le_of_ble_eq_true rfl) dX0_quickChanges_35 ⟨Nat.le_of_ble_eq_true rfl, Nat.le_of_ble_eq_true rfl⟩ (fun r_35 hr_35 => ?_)
      subst hr_35
      have hw_35 := iv_wo hI (a := ((j : Int))) (sc := (((i : Int)) + 1)) (by omega) (by omega) (by omega) (by omega)
      refine lv_istore (pc := 38) (lv' := [(5, .int (zI (gW g (((i : Int)) + 1) ((j : Int))))), (4, .int (zI (gW g ((i : Int)) ((j : Int))))), (0, .ref (ad 2)), (2, .int (zI ((i : Int)))), (1, .int (zI (y))), (3, .int (zI ((j : Int))))]) hx hb dX0_quickChanges_38 hl (by decide) rfl (fun ls hl => ?_)
      refine lv_iload (pc := 40) hx hb dX0_quickChanges_40 (lv_at hl 1 rfl) ?_
      refine lv_iconst (pc := 42) (v := zI (-1)) hx hb dX0_quickChanges_42 rfl ?_
      refine zr_icmp_eq (pc := 43) (tgt := 62) hx hb dX0_quickChanges_43 (by decide) (by omega) (by decide) (fun c_43 => ?_) (fun c_43 => ?_)
      · refine zr_iinc (pc := 62) (d := ((j : Int)) + 1) (lv' := [(3, .int (zI (((j : Int)) + 1))), (5, .int (zI (gW g (((i : Int)) + 1) ((j : Int))))), (4, .int (zI (gW g ((i : Int)) ((j : Int))))), (0, .ref (ad 2)), (2, .int (zI ((i : Int)))), (1, .int (zI (y)))]) hx hb dX0_quickChanges_62 hl (k := 5) rfl rfl (by decide) rfl (fun ls hl => ?_)
        refine lv_goto (pc := 65) (tgt := 14) hx hb dX0_quickChanges_65 (by decide) ?_
        exact ih_14 (j + 1) (y) (⟨by omega, by rw [sm_s]; first | (rw [ti_t ⟨c_43, c_49, c_56⟩]; omega) | (rw [ti_f (fun q => by first | exact q.1 c_43 | exact q.2.1 c_49 | exact q.2.2 c_56)]; omega)⟩) (by omega) ls (lv_sub hl [3, 4, 5, 0] rfl)
      · refine lv_iload (pc := 46) hx hb dX0_quickChanges_46 (lv_at hl 0 rfl) ?_
        refine lv_iconst (pc := 48) (v := zI (-1)) hx hb dX0_quickChanges_48 rfl ?_
        refine zr_icmp_eq (pc := 49) (tgt := 62) hx hb dX0_quickChanges_49 (by decide) (by omega) (by decide) (fun c_49 => ?_) (fun c_49 => ?_)
        · refine zr_iinc (pc := 62) (d := ((j : Int)) + 1) (lv' := [(3, .int (zI (((j : Int)) + 1))), (5, .int (zI (gW g (((i : Int)) + 1) ((j : Int))))), (4, .int (zI (gW g ((i : Int)) ((j : Int))))), (0, .ref (ad 2)), (2, .int (zI ((i : Int)))), (1, .int (zI (y)))]) hx hb dX0_quickChanges_62 hl (k := 5) rfl rfl (by decide) rfl (fun ls hl => ?_)
          refine lv_goto (pc := 65) (tgt := 14) hx hb dX0_quickChanges_65 (by decide) ?_
          exact ih_14 (j + 1) (y) (⟨by omega, by rw [sm_s]; first | (rw [ti_t ⟨c_43, c_49, c_56⟩]; omega) | (rw [ti_f (fun q => by first | exact q.1 c_43 | exact q.2.1 c_49 | exact q.2.2 c_56)]; omega)⟩) (by omega) ls (lv_sub hl [3, 4, 5, 0] rfl)
        · refine lv_iload (pc := 52) hx hb dX0_quickChanges_52 (lv_at hl 1 rfl) ?_
          refine lv_iload (pc := 54) hx hb dX0_quickChanges_54 (lv_at hl 0 rfl) ?_
          refine zr_icmp_eq (pc := 56) (tgt := 62) hx hb dX0_quickChanges_56 (by decide) (by omega) (by omega) (fun c_56 => ?_) (fun c_56 => ?_)
          · refine zr_iinc (pc := 62) (d := ((j : Int)) + 1) (lv' := [(3, .int (zI (((j : Int)) + 1))), (5, .int (zI (gW g (((i : Int)) + 1) ((j : Int))))), (4, .int (zI (gW g ((i : Int)) ((j : Int))))), (0, .ref (ad 2)), (2, .int (zI ((i : Int)))), (1, .int (zI (y)))]) hx hb dX0_quickChanges_62 hl (k := 5) rfl rfl (by decide) rfl (fun ls hl => ?_)
            refine lv_goto (pc := 65) (tgt := 14) hx hb dX0_quickChanges_65 (by decide) ?_
            exact ih_14 (j + 1) (y) (⟨by omega, by rw [sm_s]; first | (rw [ti_t ⟨c_43, c_49, c_56⟩]; omega) | (rw [ti_f (fun q => by first | exact q.1 c_43 | exact q.2.1 c_49 | exact q.2.2 c_56)]; omega)⟩) (by omega) ls (lv_sub hl [3, 4, 5, 0] rfl)
          · refine zr_iinc (pc := 59) (d := y + 1) (lv' := [(1, .int (zI (y + 1))), (5, .int (zI (gW g (((i : Int)) + 1) ((j : Int))))), (4, .int (zI (gW g ((i : Int)) ((j : Int))))), (0, .ref (ad 2)), (2, .int (zI ((i : Int)))), (3, .int (zI ((j : Int))))]) hx hb dX0_quickChanges_59 hl (k := 4) rfl rfl (by decide) rfl (fun ls hl => ?_)
            refine zr_iinc (pc := 62) (d := ((j : Int)) + 1) (lv' := [(3, .int (zI (((j : Int)) + 1))), (1, .int (zI (y + 1))), (5, .int (zI (gW g (((i : Int)) + 1) ((j : Int))))), (4, .int (zI (gW g ((i : Int)) ((j : Int))))), (0, .ref (ad 2)), (2, .int (zI ((i : Int))))]) hx hb dX0_quickChanges_62 hl (k := 5) rfl rfl (by decide) rfl (fun ls hl => ?_)
            refine lv_goto (pc := 65) (tgt := 14) hx hb dX0_quickChanges_65 (by decide) ?_
            exact ih_14 (j + 1) ((y + 1)) (⟨by omega, by rw [sm_s]; first | (rw [ti_t ⟨c_43, c_49, c_56⟩]; omega) | (rw [ti_f (fun q => by first | exact q.1 c_43 | exact q.2.1 c_49 | exact q.2.2 c_56)]; omega)⟩) (by omega) ls (lv_sub hl [4, 5, 1, 0] rfl)
