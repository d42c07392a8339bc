set_option maxHeartbeats 4000000 in
set_option maxRecDepth 100000 in
theorem ct_X3_part (l : Launch) (D : va_G) (cI cT : ClassId) (ad : Nat → Nat) (tl : Int) (tx rd rp : Int → Int) (t0 : 0 ≤ tl) (t1 : tl ≤ 120) (htx : ∀ i : Int, 0 ≤ i → i < tl → 1 ≤ tx i ∧ tx i ≤ 255) (j : Int) (k : Int) (j0 : 0 ≤ j) (j1 : j ≤ 23) (k0 : 0 ≤ k) (k1 : k ≤ 6) : zMr l yX3_part wsX3_part ({ frames := 1, cells := 0, slots := 0, locals := 21 }) D cI cT [.ref (ad 123), .int (zI (j)), .int (zI (k))] (fun _ H => cY D cI ad tl tx rd rp H) (fun r => r = zI (rp (j * 7 + k))) := by
  refine Met.ofW (cc := cX3_part) (maxL := 3) (ret := (some .int)) (by decide) rfl ?_
  intro p_ e_ s m_ args below meth c_ s₁ B hml hv
  obtain ⟨rfl, hK, hF⟩ := hv
  have hx := B.exec
  have hb := B.bytes
  have hr := B.returns
  have hts := atoms_spec (ws := wsX3_part) B.pre
  have hown : s.vm.findClass RX3 = some m_.cls := findClass_of_methodNamed B.named
  have hlocks := B.notSynchronized
  have S : CallFix p_ m_ c_ cX3_part 3 s _ wsX3_part RX3 := ⟨hx, hb, hml, hown, hts⟩
  have i_X3 : ∀ w ∈ u_ws RX3 TX3 8, w ∈ wsX3_part := fun _ h => List.mem_cons_of_mem _ (List.mem_append_right _ h)
  have hY := hF
  have hl := lv_entry ([.ref (ad 123), .int (zI (j)), .int (zI (k))]) (n := 3) (Nat.le_of_ble_eq_true rfl)
  rw [lg_entry_eq]
  generalize (lg_sl ([.ref (ad 123), .int (zI (j)), .int (zI (k))]) ++ List.replicate (3 - (lg_sl ([.ref (ad 123), .int (zI (j)), .int (zI (k))])).length) Slot.unset).toArray = ls at hl ⊢
  have hl : lv_has ls 3 [(0, .ref (ad 123)), (1, .int (zI (j))), (2, .int (zI (k)))] := hl
  refine lv_aload_n (pc := 0) hx hb dX3_part_0 rfl (lv_at hl 0 rfl) ?_
  refine zr_get (pc := 1) S hK hY.2.2.2.1 rfl i_X3 7 (by decide) (List.mem_of_getElem? (i := 1) rfl) rfl dX3_part_1 ?_
  refine lv_iload_n (pc := 4) hx hb dX3_part_4 rfl (lv_at hl 1 rfl) ?_
  refine lv_bipush (pc := 5) (v := zI 7) hx hb dX3_part_5 zc_bipush_7 ?_
  refine zr_imul (pc := 7) (d := j * 7) hx hb dX3_part_7 rfl ?_
  refine lv_iload_n (pc := 8) hx hb dX3_part_8 rfl (lv_at hl 2 rfl) ?_
  refine zr_iadd (pc := 9) (d := (j * 7) + k) hx hb dX3_part_9 rfl ?_
  refine zr_ni (pc := 10) (As := [.ref (ad 124), .int (zI ((j * 7) + k))]) (rest := []) S (ct_X7_at l D cI cT (ad 124) 168 _ ((j * 7) + k) (rp ((j * 7) + k)) (by decide) (by omega) (by omega) (rfl) (by omega)) (va_cnB 2 hts gX3_part_X7_at_n19 rfl rfl rfl (zK_nest hK 15 rfl) (hts _ (List.mem_of_getElem? (i := 3) rfl)) (by decide +kernel) ⟨Nat.le_of_ble_eq_true rfl, Nat.le_of_ble_eq_true rfl⟩) (hts _ (List.mem_of_getElem? (i := 2) rfl)) zs_ar hK (zAr_of (zK_int hK) hY.2.2.2.2) rfl hl.1 rfl (Nat.le_of_ble_eq_true rfl) dX3_part_10 ⟨Nat.le_of_ble_eq_true rfl, Nat.le_of_ble_eq_true rfl⟩ (fun r_10 hr_10 => ?_)
  subst hr_10
  exact W.iret (v := zI (rp ((j * 7) + k))) hx hb hr (fun tz ht hW => ⟨_, rfl, congrArg zI (rfl), ht⟩) (fun _ h => by cases h) dX3_part_13
set_option maxHeartbeats 4000000 in
set_option maxRecDepth 100000 in
theorem ct_X3_kindAt (l : Launch) (D : va_G) (cI cT : ClassId) (ad : Nat → Nat) (tl : Int) (tx rd rp : Int → Int) (t0 : 0 ≤ tl) (t1 : tl ≤ 120) (htx : ∀ i : Int, 0 ≤ i → i < tl → 1 ≤ tx i ∧ tx i ≤ 255) (o : Int) (o0 : 0 ≤ o) (o1 : o ≤ 200) : zMr l yX3_kindAt wsX3_kindAt ({ frames := 1, cells := 0, slots := 0, locals := 22 }) D cI cT [.ref (ad 123), .int (zI (o))] (fun _ H => cY D cI ad tl tx rd rp H) (fun r => r = zI (kd tx tl o)) := by
  refine Met.ofW (cc := cX3_kindAt) (maxL := 3) (ret := (some .int)) (by decide) rfl ?_
  intro p_ e_ s m_ args below meth c_ s₁ B hml hv
  obtain ⟨rfl, hK, hF⟩ := hv
  have hx := B.exec
  have hb := B.bytes
  have hr := B.returns
  have hts := atoms_spec (ws := wsX3_kindAt) B.pre
  have hown : s.vm.findClass RX3 = some m_.cls := findClass_of_methodNamed B.named
  have hlocks := B.notSynchronized
  have S : CallFix p_ m_ c_ cX3_kindAt 3 s _ wsX3_kindAt RX3 := ⟨hx, hb, hml, hown, hts⟩
  have i_X3 : ∀ w ∈ u_ws RX3 TX3 8, w ∈ wsX3_kindAt := fun _ h => List.mem_cons_of_mem _ (List.mem_append_left _ (List.mem_append_right _ h))
  have i_X5 : ∀ w ∈ u_ws RX5 TX5 2, w ∈ wsX3_kindAt := fun _ h => List.mem_cons_of_mem _ (List.mem_append_right _ h)
  have hY := hF
  have hl := lv_entry ([.ref (ad 123), .int (zI (o))]) (n := 3) (Nat.le_of_ble_eq_true rfl)
  rw [lg_entry_eq]
  generalize (lg_sl ([.ref (ad 123), .int (zI (o))]) ++ List.replicate (3 - (lg_sl ([.ref (ad 123), .int (zI (o))])).length) Slot.unset).toArray = ls at hl ⊢
  have hl : lv_has ls 3 [(0, .ref (ad 123)), (1, .int (zI (o)))] := hl
  refine lv_iload_n (pc := 0) hx hb dX3_kindAt_0 rfl (lv_at hl 1 rfl) ?_
  refine lv_aload_n (pc := 1) hx hb dX3_kindAt_1 rfl (lv_at hl 0 rfl) ?_
  refine zr_get (pc := 2) S hK hY.2.2.2.1 rfl i_X3 6 (by decide) (List.mem_of_getElem? (i := 1) rfl) rfl dX3_kindAt_2 ?_
  refine zr_get (pc := 5) S hK hY.2.1 rfl i_X5 0 (by decide) (List.mem_of_getElem? (i := 2) rfl) rfl dX3_kindAt_5 ?_
  refine zr_icmp_lt (pc := 8) (tgt := 13) hx hb dX3_kindAt_8 (by decide) (by omega) (by omega) (fun c_8 => ?_) (fun c_8 => ?_)
  · have htO := htx o o0 (by omega)
    refine lv_aload_n (pc := 13) hx hb dX3_kindAt_13 rfl (lv_at hl 0 rfl) ?_
    refine zr_get (pc := 14) S hK hY.2.2.2.1 rfl i_X3 6 (by decide) (List.mem_of_getElem? (i := 1) rfl) rfl dX3_kindAt_14 ?_
    refine zr_get (pc := 17) S hK hY.2.1 rfl i_X5 1 (by decide) (List.mem_of_getElem? (i := 3) rfl) rfl dX3_kindAt_17 ?_
    refine lv_iload_n (pc := 20) hx hb dX3_kindAt_20 rfl (lv_at hl 1 rfl) ?_
    refine zr_ni (pc := 21) (As := [.ref (ad 122), .int (zI (o))]) (rest := []) S (ct_X7_at l D cI cT (ad 122) 120 _ o (tx o) (by decide) (by omega) (by omega) (rfl) (by omega)) (va_cnB 2 hts gX3_kindAt_X7_at_n19 rfl rfl rfl (zK_nest hK 15 rfl) (hts _ (List.mem_of_getElem? (i := 5) rfl)) (by decide +kernel) ⟨Nat.le_of_ble_eq_true rfl, Nat.le_of_ble_eq_true rfl⟩) (hts _ (List.mem_of_getElem? (i := 4) rfl)) zs_ar hK (zAr_of (zK_int hK) hY.2.2.1) rfl hl.1 rfl (Nat.le_of_ble_eq_true rfl) dX3_kindAt_21 ⟨Nat.le_of_ble_eq_true rfl, Nat.le_of_ble_eq_true rfl⟩ (fun r_21 hr_21 => ?_)
    subst hr_21
    refine lv_istore_n (pc := 24) (lv' := [(2, .int (zI (tx o))), (0, .ref (ad 123)), (1, .int (zI (o)))]) hx hb dX3_kindAt_24 rfl hl (by decide) rfl (fun ls hl => ?_)
    refine lv_iload_n (pc := 25) hx hb dX3_kindAt_25 rfl (lv_at hl 0 rfl) ?_
    refine lv_bipush (pc := 26) (v := zI 97) hx hb dX3_kindAt_26 zc_bipush_97 ?_
    refine lv_bipush (pc := 28) (v := zI 122) hx hb dX3_kindAt_28 zc_bipush_122 ?_
    refine zr_ni (pc := 30) (As := [.int (zI (tx o)), .int (zI (97)), .int (zI (122))]) (rest := []) S (ct_X7_isWithin l D cI cT (tx o) 97 122 (by omega) (by decide) (by decide)) (va_cnB 3 hts gX3_kindAt_X7_isWithin_n90 rfl rfl rfl (zK_nest hK 16 rfl) (hts _ (List.mem_of_getElem? (i := 5) rfl)) (by decide +kernel) ⟨Nat.le_of_ble_eq_true rfl, Nat.le_of_ble_eq_true rfl⟩) (hts _ (List.mem_of_getElem? (i := 7) rfl)) zs0 hK trivial rfl hl.1 rfl (Nat.le_of_ble_eq_true rfl) dX3_kindAt_30 ⟨Nat.le_of_ble_eq_true rfl, Nat.le_of_ble_eq_true rfl⟩ (fun r_30 hr_30 => ?_)
    rcases hr_30 with ⟨hb_30, rfl⟩ | ⟨hb_30, rfl⟩
    · refine zr_if_eq (pc := 33) (tgt := 38) hx hb dX3_kindAt_33 (by decide) (by decide) (fun z => absurd z (by decide)) (fun _ => ?_)
      refine lv_iconst (pc := 36) (v := zI 1) hx hb dX3_kindAt_36 rfl ?_
      exact W.iret (v := zI (1)) hx hb hr (fun tz ht hW => ⟨_, rfl, congrArg zI (kd_1 (by omega) (by omega)).symm, ht⟩) (fun _ h => by cases h) dX3_kindAt_37
    · refine zr_if_eq (pc := 33) (tgt := 38) hx hb dX3_kindAt_33 (by decide) (by decide) (fun _ => ?_) (fun z => absurd z (by decide))
      refine lv_iload_n (pc := 38) hx hb dX3_kindAt_38 rfl (lv_at hl 0 rfl) ?_
      refine lv_bipush (pc := 39) (v := zI 48) hx hb dX3_kindAt_39 zc_bipush_48 ?_
      refine lv_bipush (pc := 41) (v := zI 57) hx hb dX3_kindAt_41 zc_bipush_57 ?_
      refine zr_ni (pc := 43) (As := [.int (zI (tx o)), .int (zI (48)), .int (zI (57))]) (rest := []) S (ct_X7_isWithin l D cI cT (tx o) 48 57 (by omega) (by decide) (by decide)) (va_cnB 3 hts gX3_kindAt_X7_isWithin_n90 rfl rfl rfl (zK_nest hK 16 rfl) (hts _ (List.mem_of_getElem? (i := 5) rfl)) (by decide +kernel) ⟨Nat.le_of_ble_eq_true rfl, Nat.le_of_ble_eq_true rfl⟩) (hts _ (List.mem_of_getElem? (i := 7) rfl)) zs0 hK trivial rfl hl.1 rfl (Nat.le_of_ble_eq_true rfl) dX3_kindAt_43 ⟨Nat.le_of_ble_eq_true rfl, Nat.le_of_ble_eq_true rfl⟩ (fun r_43 hr_43 => ?_)
      rcases hr_43 with ⟨hb_43, rfl⟩ | ⟨hb_43, rfl⟩
      · refine zr_if_eq (pc := 46) (tgt := 53) hx hb dX3_kindAt_46 (by decide) (by decide) (fun z => absurd z (by decide)) (fun _ => ?_)
        refine lv_iconst (pc := 49) (v := zI 2) hx hb dX3_kindAt_49 rfl ?_
        refine lv_goto (pc := 50) (tgt := 54) hx hb dX3_kindAt_50 (by decide) ?_
        exact W.iret (v := zI (2)) hx hb hr (fun tz ht hW => ⟨_, rfl, congrArg zI (kd_2 (by omega) (by omega) (by omega)).symm, ht⟩) (fun _ h => by cases h) dX3_kindAt_54
      · refine zr_if_eq (pc := 46) (tgt := 53) hx hb dX3_kindAt_46 (by decide) (by decide) (fun _ => ?_) (fun z => absurd z (by decide))
        refine lv_iconst (pc := 53) (v := zI 3) hx hb dX3_kindAt_53 rfl ?_
        exact W.iret (v := zI (3)) hx hb hr (fun tz ht hW => ⟨_, rfl, congrArg zI (kd_3 (by omega) (by omega) (by omega)).symm, ht⟩) (fun _ h => by cases h) dX3_kindAt_54
  · refine lv_iconst (pc := 11) (v := zI 0) hx hb dX3_kindAt_11 rfl ?_
    exact W.iret (v := zI (0)) hx hb hr (fun tz ht hW => ⟨_, rfl, congrArg zI (kd_0 (by omega)).symm, ht⟩) (fun _ h => by cases h) dX3_kindAt_12
set_option maxHeartbeats 4000000 in
set_option maxRecDepth 100000 in
theorem ct_X3_nextToken (l : Launch) (D : va_G) (cI cT : ClassId) (sz : Nat) (ad : Nat → Nat) (tl : Int) (tx : Int → Int) (i sa t c a : Int) (rp : Int → Int) (hJ7 : zJ ad 127) (t0 : 0 ≤ tl) (t1 : tl ≤ 120) (htx : ∀ i : Int, 0 ≤ i → i < tl → 1 ≤ tx i ∧ tx i ≤ 255) (p : Int) (p0 : 0 ≤ p) (p1 : p ≤ tl) : zMv l yX3_nextToken wsX3_nextToken ({ frames := 2, cells := 0, slots := 0, locals := 44 }) D cI cT [.ref (ad 123)] sz (fun _ H => cY D cI ad tl tx (rD i sa p t c a) rp H) (fun H => cY D cI ad tl tx (rD i (tS tx tl p) (tE tx tl p) (tK tx tl p) c a) rp H) (fun q => (q = ad 123 ∨ q = ad 124) ∨ sz ≤ q) := by
  refine Met.ofW (cc := cX3_nextToken) (maxL := 1) (ret := none) (by decide) rfl ?_
  intro p_ e_ s m_ args below meth c_ s₁ B hml hv
  obtain ⟨rfl, hsz, hK, hF⟩ := hv
  have hx := B.exec
  have hb := B.bytes
  have hr := B.returns
  have hts := atoms_spec (ws := wsX3_nextToken) B.pre
  have hown : s.vm.findClass RX3 = some m_.cls := findClass_of_methodNamed B.named
  have hlocks := B.notSynchronized
  have S : CallFix p_ m_ c_ cX3_nextToken 1 s _ wsX3_nextToken RX3 := ⟨hx, hb, hml, hown, hts⟩
  have i_X3 : ∀ w ∈ u_ws RX3 TX3 8, w ∈ wsX3_nextToken := fun _ h => List.mem_cons_of_mem _ (List.mem_append_left _ (List.mem_append_right _ h))
  have i_X5 : ∀ w ∈ u_ws RX5 TX5 2, w ∈ wsX3_nextToken := fun _ h => List.mem_cons_of_mem _ (List.mem_append_right _ h)
  subst hsz
  generalize hAe : (fun q => (q = ad 123 ∨ q = ad 124) ∨ s.heap.size ≤ q) = A
  have hAn : ∀ q : Nat, s.heap.size ≤ q → A q := fun q h => by rw [← hAe]; exact Or.inr h
  obtain ⟨H, hHe⟩ : ∃ H : Heap, H = s.heap := ⟨_, rfl⟩
  rw [← hHe] at hF ⊢
  have hS : va_S A s.heap H [] := by rw [hHe]; exact va_S.rf
  have hY := hF
  have hA123 : A (ad 123) := by rw [← hAe]; exact Or.inl (Or.inl rfl)
  have hA124 : A (ad 124) := by rw [← hAe]; exact Or.inl (Or.inr rfl)
  have hl := lv_entry ([.ref (ad 123)]) (n := 1) (Nat.le_of_ble_eq_true rfl)
  rw [lg_entry_eq]
  generalize (lg_sl ([.ref (ad 123)]) ++ List.replicate (1 - (lg_sl ([.ref (ad 123)])).length) Slot.unset).toArray = ls at hl ⊢
  have hl : lv_has ls 1 [(0, .ref (ad 123))] := hl
  refine lv_aload_n (pc := 0) hx hb dX3_nextToken_0 rfl (lv_at hl 0 rfl) ?_
  refine lv_aload_n (pc := 1) hx hb dX3_nextToken_1 rfl (lv_at hl 0 rfl) ?_
  refine zr_get (pc := 2) S hK hY.2.2.2.1 rfl i_X3 2 (by decide) (List.mem_of_getElem? (i := 1) rfl) rfl dX3_nextToken_2 ?_
  refine zr_top (b := p) rD_2 ?_
  refine zr_put (pc := 5) S hK hY.2.2.2.1 rfl i_X3 tyX3 tyX3_ok nmX3 1 (by decide) (List.mem_of_getElem? (i := 2) rfl) rfl rfl rfl (Nat.le_of_ble_eq_true rfl) hS hA123 dX3_nextToken_5 (fun H locs hO hz hk hS => ?_)
  have hY := cD_1 (p) hJ7 hY (fun q h z => hk q h z) hO
  refine zr_hloop1 (fun (q : Int) (H : Heap) => (p ≤ q ∧ q ≤ tl) ∧ (∀ x : Int, p ≤ x → x < q → ¬ nsp tx tl x) ∧ (cY D cI ad tl tx (rD i q p t c a) rp H)) (fun (q : Int) => (tl - q).toNat) (fun (q : Int) => [(0, .ref (ad 123))]) ?_ (p) (⟨⟨Int.le_refl _, p1⟩, fun x x0 x1 => absurd x1 (by omega), hY⟩) hS (lv_sub hl [0] rfl)
  intro q H locs hinv hS ih_8 ls hl
  obtain ⟨hq, hs, hY⟩ := hinv
  refine lv_aload_n (pc := 8) hx hb dX3_nextToken_8 rfl (lv_at hl 0 rfl) ?_
  refine zr_cut1 (nL := 1) (fun (u : Unit) => (nsp tx tl q)) (fun (u : Unit) => [(0, .ref (ad 123))]) (fun (u : Unit) => []) (pc2 := 54) ?_ (fun J_54 => ?_)
  · intro u hinv ls hl
    have hn := hinv
    have hTS := tok_at hq.1 hn hs
    have hkq := tok_k hTS
    refine lv_aload_n (pc := 54) hx hb dX3_nextToken_54 rfl (lv_at hl 0 rfl) ?_
    refine lv_aload_n (pc := 55) hx hb dX3_nextToken_55 rfl (lv_at hl 0 rfl) ?_
    refine lv_aload_n (pc := 56) hx hb dX3_nextToken_56 rfl (lv_at hl 0 rfl) ?_
    refine zr_get (pc := 57) S hK hY.2.2.2.1 rfl i_X3 1 (by decide) (List.mem_of_getElem? (i := 2) rfl) rfl dX3_nextToken_57 ?_
    refine zr_top (b := q) rD_1 ?_
    refine zr_vi (pc := 60) (As := [.int (zI (q))]) (rest := [.ref (ad 123)]) S (ct_X3_kindAt l D cI cT ad tl tx (rD i q p t c a) rp t0 t1 htx q (by omega) (by omega)) (cwV 1 hts gX3_nextToken_X3_kindAt rfl rfl rfl (by decide +kernel) ⟨Nat.le_of_ble_eq_true rfl, Nat.le_of_ble_eq_true rfl⟩) zs0 hK hY (zr_recv hK hY.2.2.2.1 rfl) rfl hl.1 rfl (Nat.le_of_ble_eq_true rfl) dX3_nextToken_60 ⟨Nat.le_of_ble_eq_true rfl, Nat.le_of_ble_eq_true rfl⟩ (fun r_60 hr_60 => ?_)
    subst hr_60
    have hkd_60 := kd_bd tx tl (q)
    refine zr_put (pc := 63) S hK hY.2.2.2.1 rfl i_X3 tyX3 tyX3_ok nmX3 3 (by decide) (List.mem_of_getElem? (i := 6) rfl) rfl rfl rfl (Nat.le_of_ble_eq_true rfl) hS hA123 dX3_nextToken_63 (fun H locs hO hz hk hS => ?_)
    have hY := cD_3 (kd tx tl q) hJ7 hY (fun q h z => hk q h z) hO
    refine lv_aload_n (pc := 66) hx hb dX3_nextToken_66 rfl (lv_at hl 0 rfl) ?_
    refine lv_aload_n (pc := 67) hx hb dX3_nextToken_67 rfl (lv_at hl 0 rfl) ?_
    refine zr_get (pc := 68) S hK hY.2.2.2.1 rfl i_X3 3 (by decide) (List.mem_of_getElem? (i := 6) rfl) rfl dX3_nextToken_68 ?_
    refine zr_top (b := kd tx tl q) rD_3 ?_
    refine zr_if_ne (pc := 71) (tgt := 81) hx hb dX3_nextToken_71 (by decide) (by omega) (fun c_71 => ?_) (fun c_71 => ?_)
    · refine lv_aload_n (pc := 81) hx hb dX3_nextToken_81 rfl (lv_at hl 0 rfl) ?_
      refine zr_get (pc := 82) S hK hY.2.2.2.1 rfl i_X3 1 (by decide) (List.mem_of_getElem? (i := 2) rfl) rfl dX3_nextToken_82 ?_
      refine zr_top (b := q) rD_1 ?_
      refine lv_iconst (pc := 85) (v := zI 1) hx hb dX3_nextToken_85 rfl ?_
      refine zr_iadd (pc := 86) (d := q + 1) hx hb dX3_nextToken_86 rfl ?_
      refine zr_put (pc := 87) S hK hY.2.2.2.1 rfl i_X3 tyX3 tyX3_ok nmX3 2 (by decide) (List.mem_of_getElem? (i := 1) rfl) rfl rfl rfl (Nat.le_of_ble_eq_true rfl) hS hA123 dX3_nextToken_87 (fun H locs hO hz hk hS => ?_)
      have hY := cD_2 (q + 1) hJ7 hY (fun q h z => hk q h z) hO
      refine lv_aload_n (pc := 90) hx hb dX3_nextToken_90 rfl (lv_at hl 0 rfl) ?_
      refine zr_get (pc := 91) S hK hY.2.2.2.1 rfl i_X3 3 (by decide) (List.mem_of_getElem? (i := 6) rfl) rfl dX3_nextToken_91 ?_
      refine zr_top (b := kd tx tl q) rD_3 ?_
      refine lv_iconst (pc := 94) (v := zI 1) hx hb dX3_nextToken_94 rfl ?_
      refine zr_icmp_eq (pc := 95) (tgt := 106) hx hb dX3_nextToken_95 (by decide) (by omega) (by decide) (fun c_95 => ?_) (fun c_95 => ?_)
      · refine zr_hloop1 (fun (e : Int) (H : Heap) => (q + 1 ≤ e ∧ e ≤ tl) ∧ (∀ x : Int, q + 1 ≤ x → x < e → kd tx tl x = kd tx tl q) ∧ (cY D cI ad tl tx (rD i q e (kd tx tl q) c a) rp H)) (fun (e : Int) => (tl - e).toNat) (fun (e : Int) => [(0, .ref (ad 123))]) ?_ (q + 1) (⟨by rcases kd_cases tx tl q with z | z | z | z <;> omega, fun x x0 x1 => absurd x1 (by omega), hY⟩) hS (lv_sub hl [0] rfl)
        intro e H locs hinv hS ih_106 ls hl
        obtain ⟨he, hr1, hY⟩ := hinv
        refine lv_aload_n (pc := 106) hx hb dX3_nextToken_106 rfl (lv_at hl 0 rfl) ?_
        refine zr_get (pc := 107) S hK hY.2.2.2.1 rfl i_X3 2 (by decide) (List.mem_of_getElem? (i := 1) rfl) rfl dX3_nextToken_107 ?_
        refine zr_top (b := e) rD_2 ?_
        refine lv_aload_n (pc := 110) hx hb dX3_nextToken_110 rfl (lv_at hl 0 rfl) ?_
        refine zr_get (pc := 111) S hK hY.2.2.2.1 rfl i_X3 6 (by decide) (List.mem_of_getElem? (i := 3) rfl) rfl dX3_nextToken_111 ?_
        refine zr_get (pc := 114) S hK hY.2.1 rfl i_X5 0 (by decide) (List.mem_of_getElem? (i := 4) rfl) rfl dX3_nextToken_114 ?_
        refine zr_icmp_ge (pc := 117) (tgt := 148) hx hb dX3_nextToken_117 (by decide) (by omega) (by omega) (fun c_117 => ?_) (fun c_117 => ?_)
        · exact W.vret hx hb hr (fun tz ht hW => ⟨⟨(), rfl, trivial, by dsimp only; rw [ht]; exact (by show cY D cI ad tl tx (rD i (tS tx tl p) (tE tx tl p) (tK tx tl p) c a) rp H; rw [tok_run hTS hkq (by omega) he.1 (by first | exact c_132 | (rw [kd_0 (by omega)]; omega)) hr1, hTS, hkq]; exact hY)⟩, hS.F ht⟩) hS.2.2 dX3_nextToken_148
        · refine lv_aload_n (pc := 120) hx hb dX3_nextToken_120 rfl (lv_at hl 0 rfl) ?_
          refine lv_aload_n (pc := 121) hx hb dX3_nextToken_121 rfl (lv_at hl 0 rfl) ?_
          refine zr_get (pc := 122) S hK hY.2.2.2.1 rfl i_X3 2 (by decide) (List.mem_of_getElem? (i := 1) rfl) rfl dX3_nextToken_122 ?_
          refine zr_top (b := e) rD_2 ?_
          refine zr_vi (pc := 125) (As := [.int (zI (e))]) (rest := []) S (ct_X3_kindAt l D cI cT ad tl tx (rD i q e (kd tx tl q) c a) rp t0 t1 htx e (by omega) (by omega)) (cwV 1 hts gX3_nextToken_X3_kindAt rfl rfl rfl (by decide +kernel) ⟨Nat.le_of_ble_eq_true rfl, Nat.le_of_ble_eq_true rfl⟩) zs0 hK hY (zr_recv hK hY.2.2.2.1 rfl) rfl hl.1 rfl (Nat.le_of_ble_eq_true rfl) dX3_nextToken_125 ⟨Nat.le_of_ble_eq_true rfl, Nat.le_of_ble_eq_true rfl⟩ (fun r_125 hr_125 => ?_)
          subst hr_125
          have hkd_125 := kd_bd tx tl (e)
          refine lv_aload_n (pc := 128) hx hb dX3_nextToken_128 rfl (lv_at hl 0 rfl) ?_
          refine zr_get (pc := 129) S hK hY.2.2.2.1 rfl i_X3 3 (by decide) (List.mem_of_getElem? (i := 6) rfl) rfl dX3_nextToken_129 ?_
          refine zr_top (b := kd tx tl q) rD_3 ?_
          refine zr_icmp_ne (pc := 132) (tgt := 148) hx hb dX3_nextToken_132 (by decide) (by omega) (by omega) (fun c_132 => ?_) (fun c_132 => ?_)
          · exact W.vret hx hb hr (fun tz ht hW => ⟨⟨(), rfl, trivial, by dsimp only; rw [ht]; exact (by show cY D cI ad tl tx (rD i (tS tx tl p) (tE tx tl p) (tK tx tl p) c a) rp H; rw [tok_run hTS hkq (by omega) he.1 (by first | exact c_132 | (rw [kd_0 (by omega)]; omega)) hr1, hTS, hkq]; exact hY)⟩, hS.F ht⟩) hS.2.2 dX3_nextToken_148
          · refine lv_aload_n (pc := 135) hx hb dX3_nextToken_135 rfl (lv_at hl 0 rfl) ?_
            refine lv_dup (pc := 136) hx hb dX3_nextToken_136 rfl ?_
            refine zr_get (pc := 137) S hK hY.2.2.2.1 rfl i_X3 2 (by decide) (List.mem_of_getElem? (i := 1) rfl) rfl dX3_nextToken_137 ?_
            refine zr_top (b := e) rD_2 ?_
            refine lv_iconst (pc := 140) (v := zI 1) hx hb dX3_nextToken_140 rfl ?_
            refine zr_iadd (pc := 141) (d := e + 1) hx hb dX3_nextToken_141 rfl ?_
            refine zr_put (pc := 142) S hK hY.2.2.2.1 rfl i_X3 tyX3 tyX3_ok nmX3 2 (by decide) (List.mem_of_getElem? (i := 1) rfl) rfl rfl rfl (Nat.le_of_ble_eq_true rfl) hS hA123 dX3_nextToken_142 (fun H locs hO hz hk hS => ?_)
            have hY := cD_2 (e + 1) hJ7 hY (fun q h z => hk q h z) hO
            refine lv_goto (pc := 145) (tgt := 106) hx hb dX3_nextToken_145 (by decide) ?_
            exact ih_106 (e + 1) H locs (⟨by omega, fa_q hr1 c_132, hY⟩) hS (by omega) ls (lv_sub hl [0] rfl)
      · refine lv_aload_n (pc := 98) hx hb dX3_nextToken_98 rfl (lv_at hl 0 rfl) ?_
        refine zr_get (pc := 99) S hK hY.2.2.2.1 rfl i_X3 3 (by decide) (List.mem_of_getElem? (i := 6) rfl) rfl dX3_nextToken_99 ?_
        refine zr_top (b := kd tx tl q) rD_3 ?_
        refine lv_iconst (pc := 102) (v := zI 2) hx hb dX3_nextToken_102 rfl ?_
        refine zr_icmp_ne (pc := 103) (tgt := 148) hx hb dX3_nextToken_103 (by decide) (by omega) (by decide) (fun c_103 => ?_) (fun c_103 => ?_)
        · exact W.vret hx hb hr (fun tz ht hW => ⟨⟨(), rfl, trivial, by dsimp only; rw [ht]; exact (by show cY D cI ad tl tx (rD i (tS tx tl p) (tE tx tl p) (tK tx tl p) c a) rp H; rw [(tok_3 hTS (by omega)).2, hTS, hkq]; exact hY)⟩, hS.F ht⟩) hS.2.2 dX3_nextToken_148
        · refine zr_hloop1 (fun (e : Int) (H : Heap) => (q + 1 ≤ e ∧ e ≤ tl) ∧ (∀ x : Int, q + 1 ≤ x → x < e → kd tx tl x = kd tx tl q) ∧ (cY D cI ad tl tx (rD i q e (kd tx tl q) c a) rp H)) (fun (e : Int) => (tl - e).toNat) (fun (e : Int) => [(0, .ref (ad 123))]) ?_ (q + 1) (⟨by rcases kd_cases tx tl q with z | z | z | z <;> omega, fun x x0 x1 => absurd x1 (by omega), hY⟩) hS (lv_sub hl [0] rfl)
          intro e H locs hinv hS ih_106 ls hl
          obtain ⟨he, hr1, hY⟩ := hinv
          refine lv_aload_n (pc := 106) hx hb dX3_nextToken_106 rfl (lv_at hl 0 rfl) ?_
          refine zr_get (pc := 107) S hK hY.2.2.2.1 rfl i_X3 2 (by decide) (List.mem_of_getElem? (i := 1) rfl) rfl dX3_nextToken_107 ?_
          refine zr_top (b := e) rD_2 ?_
          refine lv_aload_n (pc := 110) hx hb dX3_nextToken_110 rfl (lv_at hl 0 rfl) ?_
          refine zr_get (pc := 111) S hK hY.2.2.2.1 rfl i_X3 6 (by decide) (List.mem_of_getElem? (i := 3) rfl) rfl dX3_nextToken_111 ?_
          refine zr_get (pc := 114) S hK hY.2.1 rfl i_X5 0 (by decide) (List.mem_of_getElem? (i := 4) rfl) rfl dX3_nextToken_114 ?_
          refine zr_icmp_ge (pc := 117) (tgt := 148) hx hb dX3_nextToken_117 (by decide) (by omega) (by omega) (fun c_117 => ?_) (fun c_117 => ?_)
          · exact W.vret hx hb hr (fun tz ht hW => ⟨⟨(), rfl, trivial, by dsimp only; rw [ht]; exact (by show cY D cI ad tl tx (rD i (tS tx tl p) (tE tx tl p) (tK tx tl p) c a) rp H; rw [tok_run hTS hkq (by omega) he.1 (by first | exact c_132 | (rw [kd_0 (by omega)]; omega)) hr1, hTS, hkq]; exact hY)⟩, hS.F ht⟩) hS.2.2 dX3_nextToken_148
          · refine lv_aload_n (pc := 120) hx hb dX3_nextToken_120 rfl (lv_at hl 0 rfl) ?_
            refine lv_aload_n (pc := 121) hx hb dX3_nextToken_121 rfl (lv_at hl 0 rfl) ?_
            refine zr_get (pc := 122) S hK hY.2.2.2.1 rfl i_X3 2 (by decide) (List.mem_of_getElem? (i := 1) rfl) rfl dX3_nextToken_122 ?_
            refine zr_top (b := e) rD_2 ?_
            refine zr_vi (pc := 125) (As := [.int (zI (e))]) (rest := []) S (ct_X3_kindAt l D cI cT ad tl tx (rD i q e (kd tx tl q) c a) rp t0 t1 htx e (by omega) (by omega)) (cwV 1 hts gX3_nextToken_X3_kindAt rfl rfl rfl (by decide +kernel) ⟨Nat.le_of_ble_eq_true rfl, Nat.le_of_ble_eq_true rfl⟩) zs0 hK hY (zr_recv hK hY.2.2.2.1 rfl) rfl hl.1 rfl (Nat.le_of_ble_eq_true rfl) dX3_nextToken_125 ⟨Nat.le_of_ble_eq_true rfl, Nat.le_of_ble_eq_true rfl⟩ (fun r_125 hr_125 => ?_)
            subst hr_125
            have hkd_125 := kd_bd tx tl (e)
            refine lv_aload_n (pc := 128) hx hb dX3_nextToken_128 rfl (lv_at hl 0 rfl) ?_
            refine zr_get (pc := 129) S hK hY.2.2.2.1 rfl i_X3 3 (by decide) (List.mem_of_getElem? (i := 6) rfl) rfl dX3_nextToken_129 ?_
            refine zr_top (b := kd tx tl q) rD_3 ?_
            refine zr_icmp_ne (pc := 132) (tgt := 148) hx hb dX3_nextToken_132 (by decide) (by omega) (by omega) (fun c_132 => ?_) (fun c_132 => ?_)
            · exact W.vret hx hb hr (fun tz ht hW => ⟨⟨(), rfl, trivial, by dsimp only; rw [ht]; exact (by show cY D cI ad tl tx (rD i (tS tx tl p) (tE tx tl p) (tK tx tl p) c a) rp H; rw [tok_run hTS hkq (by omega) he.1 (by first | exact c_132 | (rw [kd_0 (by omega)]; omega)) hr1, hTS, hkq]; exact hY)⟩, hS.F ht⟩) hS.2.2 dX3_nextToken_148
            · refine lv_aload_n (pc := 135) hx hb dX3_nextToken_135 rfl (lv_at hl 0 rfl) ?_
              refine lv_dup (pc := 136) hx hb dX3_nextToken_136 rfl ?_
              refine zr_get (pc := 137) S hK hY.2.2.2.1 rfl i_X3 2 (by decide) (List.mem_of_getElem? (i := 1) rfl) rfl dX3_nextToken_137 ?_
              refine zr_top (b := e) rD_2 ?_
              refine lv_iconst (pc := 140) (v := zI 1) hx hb dX3_nextToken_140 rfl ?_
              refine zr_iadd (pc := 141) (d := e + 1) hx hb dX3_nextToken_141 rfl ?_
              refine zr_put (pc := 142) S hK hY.2.2.2.1 rfl i_X3 tyX3 tyX3_ok nmX3 2 (by decide) (List.mem_of_getElem? (i := 1) rfl) rfl rfl rfl (Nat.le_of_ble_eq_true rfl) hS hA123 dX3_nextToken_142 (fun H locs hO hz hk hS => ?_)
              have hY := cD_2 (e + 1) hJ7 hY (fun q h z => hk q h z) hO
              refine lv_goto (pc := 145) (tgt := 106) hx hb dX3_nextToken_145 (by decide) ?_
              exact ih_106 (e + 1) H locs (⟨by omega, fa_q hr1 c_132, hY⟩) hS (by omega) ls (lv_sub hl [0] rfl)
    · rw [c_71] at hY
      refine lv_aload_n (pc := 74) hx hb dX3_nextToken_74 rfl (lv_at hl 0 rfl) ?_
      refine zr_get (pc := 75) S hK hY.2.2.2.1 rfl i_X3 1 (by decide) (List.mem_of_getElem? (i := 2) rfl) rfl dX3_nextToken_75 ?_
      refine zr_top (b := q) rD_1 ?_
      refine lv_goto (pc := 78) (tgt := 87) hx hb dX3_nextToken_78 (by decide) ?_
      refine zr_put (pc := 87) S hK hY.2.2.2.1 rfl i_X3 tyX3 tyX3_ok nmX3 2 (by decide) (List.mem_of_getElem? (i := 1) rfl) rfl rfl rfl (Nat.le_of_ble_eq_true rfl) hS hA123 dX3_nextToken_87 (fun H locs hO hz hk hS => ?_)
      have hY := cD_2 (q) hJ7 hY (fun q h z => hk q h z) hO
      refine lv_aload_n (pc := 90) hx hb dX3_nextToken_90 rfl (lv_at hl 0 rfl) ?_
      refine zr_get (pc := 91) S hK hY.2.2.2.1 rfl i_X3 3 (by decide) (List.mem_of_getElem? (i := 6) rfl) rfl dX3_nextToken_91 ?_
      refine zr_top (b := 0) rD_3 ?_
      refine lv_iconst (pc := 94) (v := zI 1) hx hb dX3_nextToken_94 rfl ?_
      refine zr_icmp_eq (pc := 95) (tgt := 106) hx hb dX3_nextToken_95 (by decide) (by decide) (by decide) (fun z => absurd z (by decide)) (fun _ => ?_)
      refine lv_aload_n (pc := 98) hx hb dX3_nextToken_98 rfl (lv_at hl 0 rfl) ?_
      refine zr_get (pc := 99) S hK hY.2.2.2.1 rfl i_X3 3 (by decide) (List.mem_of_getElem? (i := 6) rfl) rfl dX3_nextToken_99 ?_
      refine zr_top (b := 0) rD_3 ?_
      refine lv_iconst (pc := 102) (v := zI 2) hx hb dX3_nextToken_102 rfl ?_
      refine zr_icmp_ne (pc := 103) (tgt := 148) hx hb dX3_nextToken_103 (by decide) (by decide) (by decide) (fun _ => ?_) (fun z => absurd z (by decide))
      exact W.vret hx hb hr (fun tz ht hW => ⟨⟨(), rfl, trivial, by dsimp only; rw [ht]; exact (by show cY D cI ad tl tx (rD i (tS tx tl p) (tE tx tl p) (tK tx tl p) c a) rp H; rw [(tok_0 hTS (by rcases kd_cases tx tl q with z | z | z | z <;> omega)).2, hTS, hkq, c_71]; exact hY)⟩, hS.F ht⟩) hS.2.2 dX3_nextToken_148
  · skip
    refine zr_get (pc := 9) S hK hY.2.2.2.1 rfl i_X3 1 (by decide) (List.mem_of_getElem? (i := 2) rfl) rfl dX3_nextToken_9 ?_
    refine zr_top (b := q) rD_1 ?_
    refine lv_aload_n (pc := 12) hx hb dX3_nextToken_12 rfl (lv_at hl 0 rfl) ?_
    refine zr_get (pc := 13) S hK hY.2.2.2.1 rfl i_X3 6 (by decide) (List.mem_of_getElem? (i := 3) rfl) rfl dX3_nextToken_13 ?_
    refine zr_get (pc := 16) S hK hY.2.1 rfl i_X5 0 (by decide) (List.mem_of_getElem? (i := 4) rfl) rfl dX3_nextToken_16 ?_
    refine zr_icmp_ge (pc := 19) (tgt := 54) hx hb dX3_nextToken_19 (by decide) (by omega) (by omega) (fun c_19 => ?_) (fun c_19 => ?_)
    · exact J_54 (()) (fun z => by first | exact absurd z.1 (by omega) | exact c_38 z.2) ls (lv_sub hl [0] rfl)
    · refine lv_aload_n (pc := 22) hx hb dX3_nextToken_22 rfl (lv_at hl 0 rfl) ?_
      refine zr_get (pc := 23) S hK hY.2.2.2.1 rfl i_X3 6 (by decide) (List.mem_of_getElem? (i := 3) rfl) rfl dX3_nextToken_23 ?_
      refine zr_get (pc := 26) S hK hY.2.1 rfl i_X5 1 (by decide) (List.mem_of_getElem? (i := 5) rfl) rfl dX3_nextToken_26 ?_
      refine lv_aload_n (pc := 29) hx hb dX3_nextToken_29 rfl (lv_at hl 0 rfl) ?_
      refine zr_get (pc := 30) S hK hY.2.2.2.1 rfl i_X3 1 (by decide) (List.mem_of_getElem? (i := 2) rfl) rfl dX3_nextToken_30 ?_
      refine zr_top (b := q) rD_1 ?_
      refine zr_ni (pc := 33) (As := [.ref (ad 122), .int (zI (q))]) (rest := []) S (ct_X7_at l D cI cT (ad 122) 120 _ q (tx q) (by decide) (by omega) (by omega) (rfl) (by omega)) (va_cnB 2 hts gX3_nextToken_X7_at_n19 rfl rfl rfl (zK_nest hK 15 rfl) (hts _ (List.mem_of_getElem? (i := 8) rfl)) (by decide +kernel) ⟨Nat.le_of_ble_eq_true rfl, Nat.le_of_ble_eq_true rfl⟩) (hts _ (List.mem_of_getElem? (i := 7) rfl)) zs_ar hK (zAr_of (zK_int hK) hY.2.2.1) rfl hl.1 rfl (Nat.le_of_ble_eq_true rfl) dX3_nextToken_33 ⟨Nat.le_of_ble_eq_true rfl, Nat.le_of_ble_eq_true rfl⟩ (fun r_33 hr_33 => ?_)
      subst hr_33
      have htq := htx q (by omega) (by omega)
      refine lv_bipush (pc := 36) (v := zI 32) hx hb dX3_nextToken_36 zc_bipush_32 ?_
      refine zr_icmp_ne (pc := 38) (tgt := 54) hx hb dX3_nextToken_38 (by decide) (by omega) (by decide) (fun c_38 => ?_) (fun c_38 => ?_)
      · exact J_54 (()) (fun z => by first | exact absurd z.1 (by omega) | exact c_38 z.2) ls (lv_sub hl [0] rfl)
      · refine lv_aload_n (pc := 41) hx hb dX3_nextToken_41 rfl (lv_at hl 0 rfl) ?_
        refine lv_dup (pc := 42) hx hb dX3_nextToken_42 rfl ?_
        refine zr_get (pc := 43) S hK hY.2.2.2.1 rfl i_X3 1 (by decide) (List.mem_of_getElem? (i := 2) rfl) rfl dX3_nextToken_43 ?_
        refine zr_top (b := q) rD_1 ?_
        refine lv_iconst (pc := 46) (v := zI 1) hx hb dX3_nextToken_46 rfl ?_
        refine zr_iadd (pc := 47) (d := q + 1) hx hb dX3_nextToken_47 rfl ?_
        refine zr_put (pc := 48) S hK hY.2.2.2.1 rfl i_X3 tyX3 tyX3_ok nmX3 1 (by decide) (List.mem_of_getElem? (i := 2) rfl) rfl rfl rfl (Nat.le_of_ble_eq_true rfl) hS hA123 dX3_nextToken_48 (fun H locs hO hz hk hS => ?_)
        have hY := cD_1 (q + 1) hJ7 hY (fun q h z => hk q h z) hO
        refine lv_goto (pc := 51) (tgt := 8) hx hb dX3_nextToken_51 (by decide) ?_
        exact ih_8 (q + 1) H locs (⟨by omega, fa_q hs (fun z => z ⟨by omega, c_38⟩), hY⟩) hS (by omega) ls (lv_sub hl [0] rfl)
set_option maxHeartbeats 4000000 in
set_option maxRecDepth 100000 in
theorem ct_X3_isWord (l : Launch) (D : va_G) (cI cT : ClassId) (ad : Nat → Nat) (tl : Int) (tx : Int → Int) (i sa e t c a : Int) (rp : Int → Int) (t0 : 0 ≤ tl) (t1 : tl ≤ 120) (htx : ∀ i : Int, 0 ≤ i → i < tl → 1 ≤ tx i ∧ tx i ≤ 255) (bs q tq : Nat) (wl : List Int) (hwl : (wl.length : Int) ≤ 1000) (hch : ∀ k : Nat, k < wl.length → 0 ≤ wl.getD k 0 ∧ wl.getD k 0 ≤ 127) (hse : 0 ≤ sa ∧ sa ≤ e ∧ e ≤ tl) (htr : 0 ≤ t ∧ t ≤ 3) : zMr l yX3_isWord wsX3_isWord ({ frames := 5, cells := 0, slots := 0, locals := 106 }) D cI cT [.ref (ad 123), .ref (q)] (fun U H => cY D cI ad tl tx (rD i sa e t c a) rp H ∧ zSo bs q tq wl U H) (fun r => bz (t = 1 ∧ isW tx sa e wl) r) := by
  refine Met.ofW (cc := cX3_isWord) (maxL := 3) (ret := (some .boolean)) (by decide) rfl ?_
  intro p_ e_ s m_ args below meth c_ s₁ B hml hv
  obtain ⟨rfl, hK, hF⟩ := hv
  have hx := B.exec
  have hb := B.bytes
  have hr := B.returns
  have hts := atoms_spec (ws := wsX3_isWord) B.pre
  have hown : s.vm.findClass RX3 = some m_.cls := findClass_of_methodNamed B.named
  have hlocks := B.notSynchronized
  have S : CallFix p_ m_ c_ cX3_isWord 3 s _ wsX3_isWord RX3 := ⟨hx, hb, hml, hown, hts⟩
  have i_X3 : ∀ w ∈ u_ws RX3 TX3 8, w ∈ wsX3_isWord := fun _ h => List.mem_cons_of_mem _ (List.mem_append_left _ (List.mem_append_right _ h))
  have i_X5 : ∀ w ∈ u_ws RX5 TX5 2, w ∈ wsX3_isWord := fun _ h => List.mem_cons_of_mem _ (List.mem_append_right _ h)
  have hY := hF.1
  have hE := hF.2
  have hl := lv_entry ([.ref (ad 123), .ref (q)]) (n := 3) (Nat.le_of_ble_eq_true rfl)
  rw [lg_entry_eq]
  generalize (lg_sl ([.ref (ad 123), .ref (q)]) ++ List.replicate (3 - (lg_sl ([.ref (ad 123), .ref (q)])).length) Slot.unset).toArray = ls at hl ⊢
  have hl : lv_has ls 3 [(0, .ref (ad 123)), (1, .ref (q))] := hl
  refine lv_aload_n (pc := 0) hx hb dX3_isWord_0 rfl (lv_at hl 0 rfl) ?_
  refine zr_get (pc := 1) S hK hY.2.2.2.1 rfl i_X3 3 (by decide) (List.mem_of_getElem? (i := 1) rfl) rfl dX3_isWord_1 ?_
  refine zr_top (b := t) rD_3 ?_
  refine lv_iconst (pc := 4) (v := zI 1) hx hb dX3_isWord_4 rfl ?_
  refine zr_icmp_ne (pc := 5) (tgt := 24) hx hb dX3_isWord_5 (by decide) (by omega) (by decide) (fun c_5 => ?_) (fun c_5 => ?_)
  · refine lv_iconst (pc := 24) (v := zI 0) hx hb dX3_isWord_24 rfl ?_
    exact W.zret (ty := .boolean) (v := zI (0)) hx hb hr (by first | rfl | decide) (fun tz ht hW => ⟨_, rfl, bz_f (fun z => by first | exact c_5 z.1 | (have y := z.2.1; omega)), ht⟩) (fun _ h => by cases h) dX3_isWord_25
  · refine lv_aload_n (pc := 8) hx hb dX3_isWord_8 rfl (lv_at hl 0 rfl) ?_
    refine zr_get (pc := 9) S hK hY.2.2.2.1 rfl i_X3 2 (by decide) (List.mem_of_getElem? (i := 2) rfl) rfl dX3_isWord_9 ?_
    refine zr_top (b := e) rD_2 ?_
    refine lv_aload_n (pc := 12) hx hb dX3_isWord_12 rfl (lv_at hl 0 rfl) ?_
    refine zr_get (pc := 13) S hK hY.2.2.2.1 rfl i_X3 1 (by decide) (List.mem_of_getElem? (i := 3) rfl) rfl dX3_isWord_13 ?_
    refine zr_top (b := sa) rD_1 ?_
    refine zr_isub (pc := 16) (d := e - sa) hx hb dX3_isWord_16 rfl ?_
    refine lv_aload_n (pc := 17) hx hb dX3_isWord_17 rfl (lv_at hl 1 rfl) ?_
    refine zr_vi (pc := 18) (As := []) (rest := [.int (zI (e - sa))]) S (ct_J0_length_8abf5 l D cI cT bs q tq wl hwl) (cwV 0 hts gX3_isWord_J0_length_8abf5 rfl rfl rfl (by decide +kernel) ⟨Nat.le_of_ble_eq_true rfl, Nat.le_of_ble_eq_true rfl⟩) zs_So hK hE (zSo_recv hE) rfl hl.1 rfl (Nat.le_of_ble_eq_true rfl) dX3_isWord_18 ⟨Nat.le_of_ble_eq_true rfl, Nat.le_of_ble_eq_true rfl⟩ (fun r_18 hr_18 => ?_)
    subst hr_18
    refine zr_icmp_eq (pc := 21) (tgt := 26) hx hb dX3_isWord_21 (by decide) (by omega) (by omega) (fun c_21 => ?_) (fun c_21 => ?_)
    · refine lv_iconst (pc := 26) (v := zI 0) hx hb dX3_isWord_26 rfl ?_
      refine lv_istore_n (pc := 27) (lv' := [(2, .int (zI (0))), (0, .ref (ad 123)), (1, .ref (q))]) hx hb dX3_isWord_27 rfl hl (by decide) rfl (fun ls hl => ?_)
      refine zr_loop1 (fun (k : Nat) => ((k : Int) ≤ (wl.length : Int)) ∧ (∀ j : Nat, j < k → tx (sa + (j : Int)) = wl.getD j 0)) (fun (k : Nat) => wl.length - k) (fun (k : Nat) => [(0, .ref (ad 123)), (1, .ref (q)), (2, .int (zI ((k : Int))))]) ?_ (0) (⟨by omega, fun j hj => absurd hj (Nat.not_lt_zero _)⟩) (lv_sub hl [1, 2, 0] rfl)
      intro k hinv ih_28 ls hl
      obtain ⟨h_k, h_n⟩ := hinv
      refine lv_iload_n (pc := 28) hx hb dX3_isWord_28 rfl (lv_at hl 2 rfl) ?_
      refine lv_aload_n (pc := 29) hx hb dX3_isWord_29 rfl (lv_at hl 1 rfl) ?_
      refine zr_vi (pc := 30) (As := []) (rest := [.int (zI ((k : Int)))]) S (ct_J0_length_8abf5 l D cI cT bs q tq wl hwl) (cwV 0 hts gX3_isWord_J0_length_8abf5 rfl rfl rfl (by decide +kernel) ⟨Nat.le_of_ble_eq_true rfl, Nat.le_of_ble_eq_true rfl⟩) zs_So hK hE (zSo_recv hE) rfl hl.1 rfl (Nat.le_of_ble_eq_true rfl) dX3_isWord_30 ⟨Nat.le_of_ble_eq_true rfl, Nat.le_of_ble_eq_true rfl⟩ (fun r_30 hr_30 => ?_)
      subst hr_30
      refine zr_icmp_ge (pc := 33) (tgt := 68) hx hb dX3_isWord_33 (by decide) (by omega) (by omega) (fun c_33 => ?_) (fun c_33 => ?_)
      · refine lv_iconst (pc := 68) (v := zI 1) hx hb dX3_isWord_68 rfl ?_
        exact W.zret (ty := .boolean) (v := zI (1)) hx hb hr (by first | rfl | decide) (fun tz ht hW => ⟨_, rfl, bz_t ⟨c_5, by omega, fun j hj => h_n j (by omega)⟩, ht⟩) (fun _ h => by cases h) dX3_isWord_69
      · refine lv_aload_n (pc := 36) hx hb dX3_isWord_36 rfl (lv_at hl 0 rfl) ?_
        refine zr_get (pc := 37) S hK hY.2.2.2.1 rfl i_X3 6 (by decide) (List.mem_of_getElem? (i := 4) rfl) rfl dX3_isWord_37 ?_
        refine zr_get (pc := 40) S hK hY.2.1 rfl i_X5 1 (by decide) (List.mem_of_getElem? (i := 5) rfl) rfl dX3_isWord_40 ?_
        refine lv_aload_n (pc := 43) hx hb dX3_isWord_43 rfl (lv_at hl 0 rfl) ?_
        refine zr_get (pc := 44) S hK hY.2.2.2.1 rfl i_X3 1 (by decide) (List.mem_of_getElem? (i := 3) rfl) rfl dX3_isWord_44 ?_
        refine zr_top (b := sa) rD_1 ?_
        refine lv_iload_n (pc := 47) hx hb dX3_isWord_47 rfl (lv_at hl 2 rfl) ?_
        refine zr_iadd (pc := 48) (d := sa + ((k : Int))) hx hb dX3_isWord_48 rfl ?_
        refine zr_ni (pc := 49) (As := [.ref (ad 122), .int (zI (sa + ((k : Int))))]) (rest := []) S (ct_X7_at l D cI cT (ad 122) 120 _ (sa + ((k : Int))) (tx (sa + ((k : Int)))) (by decide) (by omega) (by omega) (rfl) (by omega)) (va_cnB 2 hts gX3_isWord_X7_at_n19 rfl rfl rfl (zK_nest hK 15 rfl) (hts _ (List.mem_of_getElem? (i := 19) rfl)) (by decide +kernel) ⟨Nat.le_of_ble_eq_true rfl, Nat.le_of_ble_eq_true rfl⟩) (hts _ (List.mem_of_getElem? (i := 18) rfl)) zs_ar hK (zAr_of (zK_int hK) hY.2.2.1) rfl hl.1 rfl (Nat.le_of_ble_eq_true rfl) dX3_isWord_49 ⟨Nat.le_of_ble_eq_true rfl, Nat.le_of_ble_eq_true rfl⟩ (fun r_49 hr_49 => ?_)
        subst hr_49
        have htk := htx (sa + (k : Int)) (by omega) (by omega)
        refine lv_aload_n (pc := 52) hx hb dX3_isWord_52 rfl (lv_at hl 1 rfl) ?_
        refine lv_iload_n (pc := 53) hx hb dX3_isWord_53 rfl (lv_at hl 2 rfl) ?_
        refine zr_vi (pc := 54) (As := [.int (zI ((k : Int)))]) (rest := [.int (zI (tx (sa + ((k : Int)))))]) S (ct_J0_charAt_5068e l D cI cT bs q tq wl hwl (k : Int) (by omega) (by omega) (hch k (by omega)).1 (hch k (by omega)).2) (cwV 1 hts gX3_isWord_J0_charAt_5068e rfl rfl rfl (by decide +kernel) ⟨Nat.le_of_ble_eq_true rfl, Nat.le_of_ble_eq_true rfl⟩) zs_So hK hE (zSo_recv hE) rfl hl.1 rfl (Nat.le_of_ble_eq_true rfl) dX3_isWord_54 ⟨Nat.le_of_ble_eq_true rfl, Nat.le_of_ble_eq_true rfl⟩ (fun r_54 hr_54 => ?_)
        subst hr_54
        refine zr_top (b := wl.getD k 0) rfl ?_
        have hck := hch k (by omega)
        refine zr_icmp_eq (pc := 57) (tgt := 62) hx hb dX3_isWord_57 (by decide) (by omega) (by omega) (fun c_57 => ?_) (fun c_57 => ?_)
        · refine zr_iinc (pc := 62) (d := ((k : Int)) + 1) (lv' := [(2, .int (zI (((k : Int)) + 1))), (0, .ref (ad 123)), (1, .ref (q))]) hx hb dX3_isWord_62 hl (k := 2) rfl rfl (by decide) rfl (fun ls hl => ?_)
          refine lv_goto (pc := 65) (tgt := 28) hx hb dX3_isWord_65 (by decide) ?_
          exact ih_28 (k + 1) (⟨by omega, fun j hj => by rcases Nat.lt_or_ge j k with z | z <;> first | exact h_n j z | (have e : j = k := (by omega); subst e; exact c_57)⟩) (by omega) ls (lv_sub hl [1, 2, 0] rfl)
        · refine lv_iconst (pc := 60) (v := zI 0) hx hb dX3_isWord_60 rfl ?_
          exact W.zret (ty := .boolean) (v := zI (0)) hx hb hr (by first | rfl | decide) (fun tz ht hW => ⟨_, rfl, bz_f (fun z => c_57 (z.2.2 k (by omega))), ht⟩) (fun _ h => by cases h) dX3_isWord_61
    · refine lv_iconst (pc := 24) (v := zI 0) hx hb dX3_isWord_24 rfl ?_
      exact W.zret (ty := .boolean) (v := zI (0)) hx hb hr (by first | rfl | decide) (fun tz ht hW => ⟨_, rfl, bz_f (fun z => by first | exact c_5 z.1 | (have y := z.2.1; omega)), ht⟩) (fun _ h => by cases h) dX3_isWord_25
set_option maxHeartbeats 4000000 in
set_option maxRecDepth 100000 in
theorem ct_X3_takePlace (l : Launch) (D : va_G) (cI cT : ClassId) (sz : Nat) (ad : Nat → Nat) (tl : Int) (tx : Int → Int) (i sa e t c a : Int) (rp : Int → Int) (hJ7 : zJ ad 127) (b : Int) (hb01 : b = 0 ∨ b = 1) (c0 : -1000 ≤ c ∧ c ≤ 1000) (a0 : -1000 ≤ a ∧ a ≤ 1000) : zMi l yX3_takePlace wsX3_takePlace ({ frames := 0, cells := 0, slots := 0, locals := 0 }) D cI cT [.ref (ad 123), .int (zI (b))] sz (fun _ H => cY D cI ad tl tx (rD i sa e t c a) rp H) (fun rr H => (b = 1 ∧ bz (1 ≤ c) rr ∧ cY D cI ad tl tx (rD i sa e t (c - 1) a) rp H) ∨ (b = 0 ∧ bz (1 ≤ a) rr ∧ cY D cI ad tl tx (rD i sa e t c (a - 1)) rp H)) (fun q => (q = ad 123 ∨ q = ad 124) ∨ sz ≤ q) := by
  refine Met.ofW (cc := cX3_takePlace) (maxL := 2) (ret := (some .boolean)) (by decide) rfl ?_
  intro p_ e_ s m_ args below meth c_ s₁ B hml hv
  obtain ⟨rfl, hsz, hK, hF⟩ := hv
  have hx := B.exec
  have hb := B.bytes
  have hr := B.returns
  have hts := atoms_spec (ws := wsX3_takePlace) B.pre
  have hown : s.vm.findClass RX3 = some m_.cls := findClass_of_methodNamed B.named
  have hlocks := B.notSynchronized
  have S : CallFix p_ m_ c_ cX3_takePlace 2 s _ wsX3_takePlace RX3 := ⟨hx, hb, hml, hown, hts⟩
  have i_X3 : ∀ w ∈ u_ws RX3 TX3 8, w ∈ wsX3_takePlace := fun _ h => List.mem_cons_of_mem _ (List.mem_append_right _ h)
  subst hsz
  generalize hAe : (fun q => (q = ad 123 ∨ q = ad 124) ∨ s.heap.size ≤ q) = A
  have hAn : ∀ q : Nat, s.heap.size ≤ q → A q := fun q h => by rw [← hAe]; exact Or.inr h
  obtain ⟨H, hHe⟩ : ∃ H : Heap, H = s.heap := ⟨_, rfl⟩
  rw [← hHe] at hF ⊢
  have hS : va_S A s.heap H [] := by rw [hHe]; exact va_S.rf
  have hY := hF
  have hA123 : A (ad 123) := by rw [← hAe]; exact Or.inl (Or.inl rfl)
  have hA124 : A (ad 124) := by rw [← hAe]; exact Or.inl (Or.inr rfl)
  have hl := lv_entry ([.ref (ad 123), .int (zI (b))]) (n := 2) (Nat.le_of_ble_eq_true rfl)
  rw [lg_entry_eq]
  generalize (lg_sl ([.ref (ad 123), .int (zI (b))]) ++ List.replicate (2 - (lg_sl ([.ref (ad 123), .int (zI (b))])).length) Slot.unset).toArray = ls at hl ⊢
  have hl : lv_has ls 2 [(0, .ref (ad 123)), (1, .int (zI (b)))] := hl
  refine lv_iload_n (pc := 0) hx hb dX3_takePlace_0 rfl (lv_at hl 1 rfl) ?_
  refine zr_if_eq (pc := 1) (tgt := 27) hx hb dX3_takePlace_1 (by decide) (by omega) (fun c_1 => ?_) (fun c_1 => ?_)
  · refine lv_aload_n (pc := 27) hx hb dX3_takePlace_27 rfl (lv_at hl 0 rfl) ?_
    refine lv_dup (pc := 28) hx hb dX3_takePlace_28 rfl ?_
    refine zr_get (pc := 29) S hK hY.2.2.2.1 rfl i_X3 5 (by decide) (List.mem_of_getElem? (i := 2) rfl) rfl dX3_takePlace_29 ?_
    refine zr_top (b := a) rD_5 ?_
    refine lv_iconst (pc := 32) (v := zI 1) hx hb dX3_takePlace_32 rfl ?_
    refine zr_isub (pc := 33) (d := a - 1) hx hb dX3_takePlace_33 rfl ?_
    refine zr_put (pc := 34) S hK hY.2.2.2.1 rfl i_X3 tyX3 tyX3_ok nmX3 5 (by decide) (List.mem_of_getElem? (i := 2) rfl) rfl rfl rfl (Nat.le_of_ble_eq_true rfl) hS hA123 dX3_takePlace_34 (fun H locs hO hz hk hS => ?_)
    have hY := cD_5 (a - 1) hJ7 hY (fun q h z => hk q h z) hO
    refine lv_aload_n (pc := 37) hx hb dX3_takePlace_37 rfl (lv_at hl 0 rfl) ?_
    refine zr_get (pc := 38) S hK hY.2.2.2.1 rfl i_X3 5 (by decide) (List.mem_of_getElem? (i := 2) rfl) rfl dX3_takePlace_38 ?_
    refine zr_top (b := a - 1) rD_5 ?_
    refine zr_if_lt (pc := 41) (tgt := 48) hx hb dX3_takePlace_41 (by decide) (by omega) (fun c_41 => ?_) (fun c_41 => ?_)
    · refine lv_iconst (pc := 48) (v := zI 0) hx hb dX3_takePlace_48 rfl ?_
      exact W.zret (ty := .boolean) (v := zI (0)) hx hb hr (by first | rfl | decide) (fun tz ht hW => ⟨⟨zI (0), zI (0), rfl, rfl, by dsimp only; rw [ht]; exact Or.inr ⟨by omega, bz_f (by omega), hY⟩⟩, hS.F ht⟩) hS.2.2 dX3_takePlace_49
    · refine lv_iconst (pc := 44) (v := zI 1) hx hb dX3_takePlace_44 rfl ?_
      refine lv_goto (pc := 45) (tgt := 49) hx hb dX3_takePlace_45 (by decide) ?_
      exact W.zret (ty := .boolean) (v := zI (1)) hx hb hr (by first | rfl | decide) (fun tz ht hW => ⟨⟨zI (1), zI (1), rfl, rfl, by dsimp only; rw [ht]; exact Or.inr ⟨by omega, bz_t (by omega), hY⟩⟩, hS.F ht⟩) hS.2.2 dX3_takePlace_49
  · refine lv_aload_n (pc := 4) hx hb dX3_takePlace_4 rfl (lv_at hl 0 rfl) ?_
    refine lv_dup (pc := 5) hx hb dX3_takePlace_5 rfl ?_
    refine zr_get (pc := 6) S hK hY.2.2.2.1 rfl i_X3 4 (by decide) (List.mem_of_getElem? (i := 1) rfl) rfl dX3_takePlace_6 ?_
    refine zr_top (b := c) rD_4 ?_
    refine lv_iconst (pc := 9) (v := zI 1) hx hb dX3_takePlace_9 rfl ?_
    refine zr_isub (pc := 10) (d := c - 1) hx hb dX3_takePlace_10 rfl ?_
    refine zr_put (pc := 11) S hK hY.2.2.2.1 rfl i_X3 tyX3 tyX3_ok nmX3 4 (by decide) (List.mem_of_getElem? (i := 1) rfl) rfl rfl rfl (Nat.le_of_ble_eq_true rfl) hS hA123 dX3_takePlace_11 (fun H locs hO hz hk hS => ?_)
    have hY := cD_4 (c - 1) hJ7 hY (fun q h z => hk q h z) hO
    refine lv_aload_n (pc := 14) hx hb dX3_takePlace_14 rfl (lv_at hl 0 rfl) ?_
    refine zr_get (pc := 15) S hK hY.2.2.2.1 rfl i_X3 4 (by decide) (List.mem_of_getElem? (i := 1) rfl) rfl dX3_takePlace_15 ?_
    refine zr_top (b := c - 1) rD_4 ?_
    refine zr_if_lt (pc := 18) (tgt := 25) hx hb dX3_takePlace_18 (by decide) (by omega) (fun c_18 => ?_) (fun c_18 => ?_)
    · refine lv_iconst (pc := 25) (v := zI 0) hx hb dX3_takePlace_25 rfl ?_
      exact W.zret (ty := .boolean) (v := zI (0)) hx hb hr (by first | rfl | decide) (fun tz ht hW => ⟨⟨zI (0), zI (0), rfl, rfl, by dsimp only; rw [ht]; exact Or.inl ⟨by omega, bz_f (by omega), hY⟩⟩, hS.F ht⟩) hS.2.2 dX3_takePlace_26
    · refine lv_iconst (pc := 21) (v := zI 1) hx hb dX3_takePlace_21 rfl ?_
      refine lv_goto (pc := 22) (tgt := 26) hx hb dX3_takePlace_22 (by decide) ?_
      exact W.zret (ty := .boolean) (v := zI (1)) hx hb hr (by first | rfl | decide) (fun tz ht hW => ⟨⟨zI (1), zI (1), rfl, rfl, by dsimp only; rw [ht]; exact Or.inl ⟨by omega, bz_t (by omega), hY⟩⟩, hS.F ht⟩) hS.2.2 dX3_takePlace_26
set_option maxHeartbeats 4000000 in
set_option maxRecDepth 100000 in
theorem ct_X3_isAllowed (l : Launch) (D : va_G) (cI cT : ClassId) (k : Int) (v : Int) (r_k : -2147483648 ≤ k ∧ k ≤ 2147483647) (r_v : -2147483648 ≤ v ∧ v ≤ 2147483647) : zMr l yX3_isAllowed wsX3_isAllowed ({ frames := 1, cells := 0, slots := 0, locals := 22 }) D cI cT [.int (zI (k)), .int (zI (v))] (fun _ _ => True) (fun r => bz ((k = 4 ∧ 0 ≤ v ∧ v ≤ 8) ∨ (k = 5 ∧ 0 ≤ v ∧ v ≤ 3) ∨ (k ≠ 4 ∧ k ≠ 5 ∧ 40 ≤ v ∧ v ≤ 200)) r) := by
  refine Met.ofW (cc := cX3_isAllowed) (maxL := 2) (ret := (some .boolean)) (by decide) rfl ?_
  intro p_ e_ s m_ args below meth c_ s₁ B hml hv
  obtain ⟨rfl, hK, hF⟩ := hv
  have hx := B.exec
  have hb := B.bytes
  have hr := B.returns
  have hts := atoms_spec (ws := wsX3_isAllowed) B.pre
  have hown : s.vm.findClass RX3 = some m_.cls := findClass_of_methodNamed B.named
  have hlocks := B.notSynchronized
  have S : CallFix p_ m_ c_ cX3_isAllowed 2 s _ wsX3_isAllowed RX3 := ⟨hx, hb, hml, hown, hts⟩
  have hl := lv_entry ([.int (zI (k)), .int (zI (v))]) (n := 2) (Nat.le_of_ble_eq_true rfl)
  rw [lg_entry_eq]
  generalize (lg_sl ([.int (zI (k)), .int (zI (v))]) ++ List.replicate (2 - (lg_sl ([.int (zI (k)), .int (zI (v))])).length) Slot.unset).toArray = ls at hl ⊢
  have hl : lv_has ls 2 [(0, .int (zI (k))), (1, .int (zI (v)))] := hl
  refine lv_iload_n (pc := 0) hx hb dX3_isAllowed_0 rfl (lv_at hl 0 rfl) ?_
  have rg_1 : -2147483648 ≤ k ∧ k ≤ 2147483647 := (by omega)
  by_cases c_1 : k = 4
  · refine zr_lookup (pc := 1) (tgt := 28) (off := 27) hx hb dX3_isAllowed_1 (by rfl) (by rw [zi_toInt rg_1, c_1]; rfl) (by decide) ?_
    refine lv_iload_n (pc := 28) hx hb dX3_isAllowed_28 rfl (lv_at hl 1 rfl) ?_
    refine lv_iconst (pc := 29) (v := zI 0) hx hb dX3_isAllowed_29 rfl ?_
    refine lv_bipush (pc := 30) (v := zI 8) hx hb dX3_isAllowed_30 zc_bipush_8 ?_
    refine zr_ni (pc := 32) (As := [.int (zI (v)), .int (zI (0)), .int (zI (8))]) (rest := []) S (ct_X7_isWithin l D cI cT v 0 8 (by omega) (by decide) (by decide)) (va_cnB 3 hts gX3_isAllowed_X7_isWithin_n90 rfl rfl rfl (zK_nest hK 16 rfl) (hts _ (List.mem_of_getElem? (i := 2) rfl)) (by decide +kernel) ⟨Nat.le_of_ble_eq_true rfl, Nat.le_of_ble_eq_true rfl⟩) (hts _ (List.mem_of_getElem? (i := 1) rfl)) zs0 hK trivial rfl hl.1 rfl (Nat.le_of_ble_eq_true rfl) dX3_isAllowed_32 ⟨Nat.le_of_ble_eq_true rfl, Nat.le_of_ble_eq_true rfl⟩ (fun r_32 hr_32 => ?_)
    rcases hr_32 with ⟨hb_32, rfl⟩ | ⟨hb_32, rfl⟩
    · exact W.zret (ty := .boolean) (v := zI (1)) hx hb hr (by first | rfl | decide) (fun tz ht hW => ⟨_, rfl, bz_t (by omega), ht⟩) (fun _ h => by cases h) dX3_isAllowed_35
    · exact W.zret (ty := .boolean) (v := zI (0)) hx hb hr (by first | rfl | decide) (fun tz ht hW => ⟨_, rfl, bz_f (by omega), ht⟩) (fun _ h => by cases h) dX3_isAllowed_35
  have n0_1 := c_1
  by_cases c_1 : k = 5
  · refine zr_lookup (pc := 1) (tgt := 36) (off := 35) hx hb dX3_isAllowed_1 (by rfl) (by rw [zi_toInt rg_1, c_1]; rfl) (by decide) ?_
    refine lv_iload_n (pc := 36) hx hb dX3_isAllowed_36 rfl (lv_at hl 1 rfl) ?_
    refine lv_iconst (pc := 37) (v := zI 0) hx hb dX3_isAllowed_37 rfl ?_
    refine lv_iconst (pc := 38) (v := zI 3) hx hb dX3_isAllowed_38 rfl ?_
    refine zr_ni (pc := 39) (As := [.int (zI (v)), .int (zI (0)), .int (zI (3))]) (rest := []) S (ct_X7_isWithin l D cI cT v 0 3 (by omega) (by decide) (by decide)) (va_cnB 3 hts gX3_isAllowed_X7_isWithin_n90 rfl rfl rfl (zK_nest hK 16 rfl) (hts _ (List.mem_of_getElem? (i := 2) rfl)) (by decide +kernel) ⟨Nat.le_of_ble_eq_true rfl, Nat.le_of_ble_eq_true rfl⟩) (hts _ (List.mem_of_getElem? (i := 1) rfl)) zs0 hK trivial rfl hl.1 rfl (Nat.le_of_ble_eq_true rfl) dX3_isAllowed_39 ⟨Nat.le_of_ble_eq_true rfl, Nat.le_of_ble_eq_true rfl⟩ (fun r_39 hr_39 => ?_)
    rcases hr_39 with ⟨hb_39, rfl⟩ | ⟨hb_39, rfl⟩
    · exact W.zret (ty := .boolean) (v := zI (1)) hx hb hr (by first | rfl | decide) (fun tz ht hW => ⟨_, rfl, bz_t (by omega), ht⟩) (fun _ h => by cases h) dX3_isAllowed_42
    · exact W.zret (ty := .boolean) (v := zI (0)) hx hb hr (by first | rfl | decide) (fun tz ht hW => ⟨_, rfl, bz_f (by omega), ht⟩) (fun _ h => by cases h) dX3_isAllowed_42
  have n1_1 := c_1
  refine zr_lookup (pc := 1) (tgt := 43) (off := 42) hx hb dX3_isAllowed_1 (by rfl) ((lv_osw (k := zI 4) (fun q => n0_1 ((zi_eq rg_1 (by decide)).mp q)) (by decide)).trans ((lv_osw (k := zI 5) (fun q => n1_1 ((zi_eq rg_1 (by decide)).mp q)) (by decide)).trans rfl)) (by decide) ?_
  refine lv_iload_n (pc := 43) hx hb dX3_isAllowed_43 rfl (lv_at hl 1 rfl) ?_
  refine lv_bipush (pc := 44) (v := zI 40) hx hb dX3_isAllowed_44 zc_bipush_40 ?_
  refine lv_sipush (pc := 46) (v := zI 200) hx hb dX3_isAllowed_46 zc_sipush_200 ?_
  refine zr_ni (pc := 49) (As := [.int (zI (v)), .int (zI (40)), .int (zI (200))]) (rest := []) S (ct_X7_isWithin l D cI cT v 40 200 (by omega) (by decide) (by decide)) (va_cnB 3 hts gX3_isAllowed_X7_isWithin_n90 rfl rfl rfl (zK_nest hK 16 rfl) (hts _ (List.mem_of_getElem? (i := 2) rfl)) (by decide +kernel) ⟨Nat.le_of_ble_eq_true rfl, Nat.le_of_ble_eq_true rfl⟩) (hts _ (List.mem_of_getElem? (i := 1) rfl)) zs0 hK trivial rfl hl.1 rfl (Nat.le_of_ble_eq_true rfl) dX3_isAllowed_49 ⟨Nat.le_of_ble_eq_true rfl, Nat.le_of_ble_eq_true rfl⟩ (fun r_49 hr_49 => ?_)
  rcases hr_49 with ⟨hb_49, rfl⟩ | ⟨hb_49, rfl⟩
  · exact W.zret (ty := .boolean) (v := zI (1)) hx hb hr (by first | rfl | decide) (fun tz ht hW => ⟨_, rfl, bz_t (by omega), ht⟩) (fun _ h => by cases h) dX3_isAllowed_52
  · exact W.zret (ty := .boolean) (v := zI (0)) hx hb hr (by first | rfl | decide) (fun tz ht hW => ⟨_, rfl, bz_f (by omega), ht⟩) (fun _ h => by cases h) dX3_isAllowed_52
set_option maxHeartbeats 4000000 in
set_option maxRecDepth 100000 in
theorem ct_X3_keep (l : Launch) (D : va_G) (cI cT : ClassId) (sz : Nat) (ad : Nat → Nat) (tl : Int) (tx : Int → Int) (i sa e t c a : Int) (rp : Int → Int) (hJ7 : zJ ad 127) (k v : Int) (i0 : 0 ≤ i) (i1 : i ≤ 23) (k0 : 0 ≤ k) (k1 : k ≤ 6) : zMv l yX3_keep wsX3_keep ({ frames := 1, cells := 0, slots := 0, locals := 22 }) D cI cT [.ref (ad 123), .int (zI (k)), .int (zI (v))] sz (fun _ H => cY D cI ad tl tx (rD i sa e t c a) rp H) (fun H => cY D cI ad tl tx (rD i sa e t c a) (zu rp (i * 7 + k) v) H) (fun q => (q = ad 123 ∨ q = ad 124) ∨ sz ≤ q) := by
  refine Met.ofW (cc := cX3_keep) (maxL := 3) (ret := none) (by decide) rfl ?_
  intro p_ e_ s m_ args below meth c_ s₁ B hml hv
  obtain ⟨rfl, hsz, hK, hF⟩ := hv
  have hx := B.exec
  have hb := B.bytes
  have hr := B.returns
  have hts := atoms_spec (ws := wsX3_keep) B.pre
  have hown : s.vm.findClass RX3 = some m_.cls := findClass_of_methodNamed B.named
  have hlocks := B.notSynchronized
  have S : CallFix p_ m_ c_ cX3_keep 3 s _ wsX3_keep RX3 := ⟨hx, hb, hml, hown, hts⟩
  have i_X3 : ∀ w ∈ u_ws RX3 TX3 8, w ∈ wsX3_keep := fun _ h => List.mem_cons_of_mem _ (List.mem_append_right _ h)
  subst hsz
  generalize hAe : (fun q => (q = ad 123 ∨ q = ad 124) ∨ s.heap.size ≤ q) = A
  have hAn : ∀ q : Nat, s.heap.size ≤ q → A q := fun q h => by rw [← hAe]; exact Or.inr h
  obtain ⟨H, hHe⟩ : ∃ H : Heap, H = s.heap := ⟨_, rfl⟩
  rw [← hHe] at hF ⊢
  have hS : va_S A s.heap H [] := by rw [hHe]; exact va_S.rf
  have hY := hF
  have hA123 : A (ad 123) := by rw [← hAe]; exact Or.inl (Or.inl rfl)
  have hA124 : A (ad 124) := by rw [← hAe]; exact Or.inl (Or.inr rfl)
  have hl := lv_entry ([.ref (ad 123), .int (zI (k)), .int (zI (v))]) (n := 3) (Nat.le_of_ble_eq_true rfl)
  rw [lg_entry_eq]
  generalize (lg_sl ([.ref (ad 123), .int (zI (k)), .int (zI (v))]) ++ List.replicate (3 - (lg_sl ([.ref (ad 123), .int (zI (k)), .int (zI (v))])).length) Slot.unset).toArray = ls at hl ⊢
  have hl : lv_has ls 3 [(0, .ref (ad 123)), (1, .int (zI (k))), (2, .int (zI (v)))] := hl
  refine lv_aload_n (pc := 0) hx hb dX3_keep_0 rfl (lv_at hl 0 rfl) ?_
  refine zr_get (pc := 1) S hK hY.2.2.2.1 rfl i_X3 7 (by decide) (List.mem_of_getElem? (i := 1) rfl) rfl dX3_keep_1 ?_
  refine lv_aload_n (pc := 4) hx hb dX3_keep_4 rfl (lv_at hl 0 rfl) ?_
  refine zr_get (pc := 5) S hK hY.2.2.2.1 rfl i_X3 0 (by decide) (List.mem_of_getElem? (i := 2) rfl) rfl dX3_keep_5 ?_
  refine zr_top (b := i) rD_0 ?_
  refine lv_bipush (pc := 8) (v := zI 7) hx hb dX3_keep_8 zc_bipush_7 ?_
  refine zr_imul (pc := 10) (d := i * 7) hx hb dX3_keep_10 rfl ?_
  refine lv_iload_n (pc := 11) hx hb dX3_keep_11 rfl (lv_at hl 1 rfl) ?_
  refine zr_iadd (pc := 12) (d := (i * 7) + k) hx hb dX3_keep_12 rfl ?_
  refine lv_iload_n (pc := 13) hx hb dX3_keep_13 rfl (lv_at hl 2 rfl) ?_
  refine zr_nwv (pc := 14) (As := [.ref (ad 124), .int (zI ((i * 7) + k)), .int (zI (v))]) (rest := []) S (ct_X7_put l D cI cT H.size (ad 124) 168 _ ((i * 7) + k) v (by decide) (by omega) (by omega)) (va_cnB 3 hts gX3_keep_X7_put_n27 rfl rfl rfl (zK_nest hK 17 rfl) (hts _ (List.mem_of_getElem? (i := 4) rfl)) (by decide +kernel) ⟨Nat.le_of_ble_eq_true rfl, Nat.le_of_ble_eq_true rfl⟩) (hts _ (List.mem_of_getElem? (i := 3) rfl)) zs0 hK hY.2.2.2.2 hS (fun q h => h.elim (fun e => by rw [e]; exact hA124) (fun z => hAn q (Nat.le_trans hS.1 z))) rfl hl.1 rfl (Nat.le_of_ble_eq_true rfl) dX3_keep_14 ⟨Nat.le_of_ble_eq_true rfl, Nat.le_of_ble_eq_true rfl⟩ (fun H locs hG hz hk hS => ?_)
  have hY := cY_rp (zu rp ((i * 7) + k) v) hJ7 hY (fun q h1 h2 => hk q h1 (fun z => z.elim h2 (fun y => absurd h1 (Nat.not_lt.mpr y)))) hG
  exact W.vret hx hb hr (fun tz ht hW => ⟨⟨(), rfl, trivial, by dsimp only; rw [ht]; exact hY⟩, hS.F ht⟩) hS.2.2 dX3_keep_17
set_option maxHeartbeats 4000000 in
set_option maxRecDepth 100000 in
theorem ct_X3_readNumber (l : Launch) (D : va_G) (cI cT : ClassId) (sz : Nat) (ad : Nat → Nat) (tl : Int) (tx : Int → Int) (i sa t c a : Int) (rp : Int → Int) (hJ7 : zJ ad 127) (t0 : 0 ≤ tl) (t1 : tl ≤ 120) (htx : ∀ i : Int, 0 ≤ i → i < tl → 1 ≤ tx i ∧ tx i ≤ 255) (p w : Int) (p0 : 0 ≤ p) (p1 : p ≤ tl) (w0 : 1 ≤ w) (w1 : w ≤ 5) (i0 : 0 ≤ i) (i1 : i ≤ 23) : zMi l yX3_readNumber wsX3_readNumber ({ frames := 3, cells := 0, slots := 0, locals := 64 }) D cI cT [.ref (ad 123), .int (zI (w))] sz (fun _ H => cY D cI ad tl tx (rD i sa p t c a) rp H) (fun rr H => ∃ rp' : Int → Int, cY D cI ad tl tx (rD i (tS tx tl p) (tE tx tl p) (tK tx tl p) c a) rp' H ∧ ((tN tx tl p (loN w) (hiN w) ∧ rr = zI 1 ∧ rp' = zu rp (i * 7 + w) (tV tx tl p)) ∨ (¬ tN tx tl p (loN w) (hiN w) ∧ rr = zI 0 ∧ ∀ x : Int, x < i * 7 → rp' x = rp x))) (fun q => (q = ad 123 ∨ q = ad 124) ∨ sz ≤ q) := by
  refine Met.ofW (cc := cX3_readNumber) (maxL := 5) (ret := (some .boolean)) (by decide) rfl ?_
  intro p_ e_ s m_ args below meth c_ s₁ B hml hv
  obtain ⟨rfl, hsz, hK, hF⟩ := hv
  have hx := B.exec
  have hb := B.bytes
  have hr := B.returns
  have hts := atoms_spec (ws := wsX3_readNumber) B.pre
  have hown : s.vm.findClass RX3 = some m_.cls := findClass_of_methodNamed B.named
  have hlocks := B.notSynchronized
  have S : CallFix p_ m_ c_ cX3_readNumber 5 s _ wsX3_readNumber RX3 := ⟨hx, hb, hml, hown, hts⟩
  have i_X3 : ∀ w ∈ u_ws RX3 TX3 8, w ∈ wsX3_readNumber := fun _ h => List.mem_cons_of_mem _ (List.mem_append_left _ (List.mem_append_right _ h))
  have i_X5 : ∀ w ∈ u_ws RX5 TX5 2, w ∈ wsX3_readNumber := fun _ h => List.mem_cons_of_mem _ (List.mem_append_right _ h)
  subst hsz
  generalize hAe : (fun q => (q = ad 123 ∨ q = ad 124) ∨ s.heap.size ≤ q) = A
  have hAn : ∀ q : Nat, s.heap.size ≤ q → A q := fun q h => by rw [← hAe]; exact Or.inr h
  obtain ⟨H, hHe⟩ : ∃ H : Heap, H = s.heap := ⟨_, rfl⟩
  rw [← hHe] at hF ⊢
  have hS : va_S A s.heap H [] := by rw [hHe]; exact va_S.rf
  have hY := hF
  have hA123 : A (ad 123) := by rw [← hAe]; exact Or.inl (Or.inl rfl)
  have hA124 : A (ad 124) := by rw [← hAe]; exact Or.inl (Or.inr rfl)
  have htb := tE_bd (tx := tx) p0 p1
  have htk := tK_bd tx tl p
  have hl := lv_entry ([.ref (ad 123), .int (zI (w))]) (n := 5) (Nat.le_of_ble_eq_true rfl)
  rw [lg_entry_eq]
  generalize (lg_sl ([.ref (ad 123), .int (zI (w))]) ++ List.replicate (5 - (lg_sl ([.ref (ad 123), .int (zI (w))])).length) Slot.unset).toArray = ls at hl ⊢
  have hl : lv_has ls 5 [(0, .ref (ad 123)), (1, .int (zI (w)))] := hl
  refine lv_aload_n (pc := 0) hx hb dX3_readNumber_0 rfl (lv_at hl 0 rfl) ?_
  refine zr_vwv (pc := 1) (As := []) (rest := []) S (ct_X3_nextToken l D cI cT H.size ad tl tx i sa t c a rp hJ7 t0 t1 htx p (by omega) (by omega)) (cwV 0 hts gX3_readNumber_X3_nextToken rfl rfl rfl (by decide +kernel) ⟨Nat.le_of_ble_eq_true rfl, Nat.le_of_ble_eq_true rfl⟩) zs0 hK hY (zr_recv hK hY.2.2.2.1 rfl) hS (fun q h => h.elim (fun z => z.elim (fun e => by rw [e]; exact hA123) (fun e => by rw [e]; exact hA124)) (fun z => hAn q (Nat.le_trans hS.1 z))) rfl hl.1 rfl (Nat.le_of_ble_eq_true rfl) dX3_readNumber_1 ⟨Nat.le_of_ble_eq_true rfl, Nat.le_of_ble_eq_true rfl⟩ (fun H locs hG hz hk hS => ?_)
  have hY := hG
  refine zr_cut1 (nL := 5) (fun (z : Int) => ((z = 1 ∧ tZ tx tl p) ∨ (z = 0 ∧ ¬ tZ tx tl p))) (fun (z : Int) => [(0, .ref (ad 123)), (1, .int (zI (w)))]) (fun (z : Int) => [.int (zI (z))]) (pc2 := 41) ?_ (fun J_41 => ?_)
  · intro z hinv ls hl
    have hz := hinv
    refine lv_istore_n (pc := 41) (lv' := [(2, .int (zI (z))), (0, .ref (ad 123)), (1, .int (zI (w)))]) hx hb dX3_readNumber_41 rfl hl (by decide) rfl (fun ls hl => ?_)
    refine lv_aload_n (pc := 42) hx hb dX3_readNumber_42 rfl (lv_at hl 1 rfl) ?_
    refine zr_get (pc := 43) S hK hY.2.2.2.1 rfl i_X3 3 (by decide) (List.mem_of_getElem? (i := 5) rfl) rfl dX3_readNumber_43 ?_
    refine zr_top (b := tK tx tl p) rD_3 ?_
    refine lv_iconst (pc := 46) (v := zI 2) hx hb dX3_readNumber_46 rfl ?_
    refine zr_icmp_ne (pc := 47) (tgt := 54) hx hb dX3_readNumber_47 (by decide) (by omega) (by decide) (fun c_47 => ?_) (fun c_47 => ?_)
    · refine lv_iconst (pc := 54) (v := zI 0) hx hb dX3_readNumber_54 rfl ?_
      exact W.zret (ty := .boolean) (v := zI (0)) hx hb hr (by first | rfl | decide) (fun tz ht hW => ⟨⟨zI (0), zI (0), rfl, rfl, by dsimp only; rw [ht]; exact ⟨rp, hY, Or.inr ⟨fun y => by first | exact c_47 y.1 | (rcases hz with u | u <;> first | exact y.2.1 u.2 | omega), rfl, fun _ _ => rfl⟩⟩⟩, hS.F ht⟩) hS.2.2 dX3_readNumber_55
    · refine lv_iload_n (pc := 50) hx hb dX3_readNumber_50 rfl (lv_at hl 0 rfl) ?_
      refine zr_if_eq (pc := 51) (tgt := 56) hx hb dX3_readNumber_51 (by decide) (by omega) (fun c_51 => ?_) (fun c_51 => ?_)
      · have hnz : ¬ tZ tx tl p := by rcases hz with u | u <;> first | exact u.2 | omega
        refine lv_iconst (pc := 56) (v := zI 0) hx hb dX3_readNumber_56 rfl ?_
        refine lv_istore_n (pc := 57) (lv' := [(3, .int (zI (0))), (2, .int (zI (z))), (0, .ref (ad 123)), (1, .int (zI (w)))]) hx hb dX3_readNumber_57 rfl hl (by decide) rfl (fun ls hl => ?_)
        refine lv_aload_n (pc := 58) hx hb dX3_readNumber_58 rfl (lv_at hl 2 rfl) ?_
        refine zr_get (pc := 59) S hK hY.2.2.2.1 rfl i_X3 1 (by decide) (List.mem_of_getElem? (i := 2) rfl) rfl dX3_readNumber_59 ?_
        refine zr_top (b := tS tx tl p) rD_1 ?_
        refine zr_top (b := tS tx tl p + ((0 : Nat) : Int)) (by omega) ?_
        refine lv_istore (pc := 62) (lv' := [(4, .int (zI (tS tx tl p + ((0 : Nat) : Int)))), (3, .int (zI (0))), (2, .int (zI (z))), (0, .ref (ad 123)), (1, .int (zI (w)))]) hx hb dX3_readNumber_62 hl (by decide) rfl (fun ls hl => ?_)
        refine zr_loop2 (fun (n : Nat) (v : Int) => (tS tx tl p + (n : Int) ≤ tE tx tl p) ∧ (v = nv tx (tS tx tl p) n)) (fun (n : Nat) (v : Int) => (tE tx tl p - tS tx tl p).toNat - n) (fun (n : Nat) (v : Int) => [(0, .ref (ad 123)), (1, .int (zI (w))), (3, .int (zI (v))), (4, .int (zI (tS tx tl p + (n : Int))))]) ?_ (0) (0) (⟨by omega, rfl⟩) (lv_sub hl [3, 4, 1, 0] rfl)
        intro n v hinv ih_64 ls hl
        obtain ⟨hn, hv⟩ := hinv
        have hvb : 0 ≤ v ∧ v ≤ 1000 := by rw [hv]; exact nv_bd (fun k k0 k1 => tok_dig p0 p1 c_47 _ (by omega) (by omega))
        refine lv_iload (pc := 64) hx hb dX3_readNumber_64 (lv_at hl 3 rfl) ?_
        refine lv_aload_n (pc := 66) hx hb dX3_readNumber_66 rfl (lv_at hl 0 rfl) ?_
        refine zr_get (pc := 67) S hK hY.2.2.2.1 rfl i_X3 2 (by decide) (List.mem_of_getElem? (i := 1) rfl) rfl dX3_readNumber_67 ?_
        refine zr_top (b := tE tx tl p) rD_2 ?_
        refine zr_icmp_ge (pc := 70) (tgt := 106) hx hb dX3_readNumber_70 (by decide) (by omega) (by omega) (fun c_70 => ?_) (fun c_70 => ?_)
        · have htv : v = tV tx tl p := by rw [hv]; unfold tV; rw [show n = (tE tx tl p - tS tx tl p).toNat by omega]
          refine lv_aload_n (pc := 106) hx hb dX3_readNumber_106 rfl (lv_at hl 0 rfl) ?_
          refine lv_iload_n (pc := 107) hx hb dX3_readNumber_107 rfl (lv_at hl 1 rfl) ?_
          refine lv_iload_n (pc := 108) hx hb dX3_readNumber_108 rfl (lv_at hl 2 rfl) ?_
          refine zr_vwv (pc := 109) (As := [.int (zI (w)), .int (zI (v))]) (rest := []) S (ct_X3_keep l D cI cT H.size ad tl tx i (tS tx tl p) (tE tx tl p) (tK tx tl p) c a rp hJ7 w v (by omega) (by omega) (by omega) (by omega)) (cwV 2 hts gX3_readNumber_X3_keep rfl rfl rfl (by decide +kernel) ⟨Nat.le_of_ble_eq_true rfl, Nat.le_of_ble_eq_true rfl⟩) zs0 hK hY (zr_recv hK hY.2.2.2.1 rfl) hS (fun q h => h.elim (fun z => z.elim (fun e => by rw [e]; exact hA123) (fun e => by rw [e]; exact hA124)) (fun z => hAn q (Nat.le_trans hS.1 z))) rfl hl.1 rfl (Nat.le_of_ble_eq_true rfl) dX3_readNumber_109 ⟨Nat.le_of_ble_eq_true rfl, Nat.le_of_ble_eq_true rfl⟩ (fun H locs hG hz hk hS => ?_)
          have hY := hG
          refine lv_iload_n (pc := 112) hx hb dX3_readNumber_112 rfl (lv_at hl 1 rfl) ?_
          refine lv_iload_n (pc := 113) hx hb dX3_readNumber_113 rfl (lv_at hl 2 rfl) ?_
          refine zr_si (pc := 114) (As := [.int (zI (w)), .int (zI (v))]) (rest := []) S (ct_X3_isAllowed l D cI cT w v (by omega) (by omega)) (va_cwS 2 hts gX3_readNumber_X3_isAllowed rfl rfl rfl (by decide +kernel) ⟨Nat.le_of_ble_eq_true rfl, Nat.le_of_ble_eq_true rfl⟩) zs0 hK trivial rfl hl.1 rfl (Nat.le_of_ble_eq_true rfl) dX3_readNumber_114 ⟨Nat.le_of_ble_eq_true rfl, Nat.le_of_ble_eq_true rfl⟩ (fun r_114 hr_114 => ?_)
          rcases hr_114 with ⟨hb_114, rfl⟩ | ⟨hb_114, rfl⟩
          · exact W.zret (ty := .boolean) (v := zI (1)) hx hb hr (by first | rfl | decide) (fun tz ht hW => ⟨⟨zI (1), zI (1), rfl, rfl, by dsimp only; rw [ht]; exact ⟨_, hY, Or.inl ⟨⟨c_47, hnz, (alw_n w0 w1).mp (by rw [← htv]; exact hb_114)⟩, rfl, by rw [htv]⟩⟩⟩, hS.F ht⟩) hS.2.2 dX3_readNumber_117
          · exact W.zret (ty := .boolean) (v := zI (0)) hx hb hr (by first | rfl | decide) (fun tz ht hW => ⟨⟨zI (0), zI (0), rfl, rfl, by dsimp only; rw [ht]; exact ⟨_, hY, Or.inr ⟨fun y => hb_114 (by rw [htv]; exact (alw_n w0 w1).mpr y.2.2), rfl, fun x hx => zu_n (by omega)⟩⟩⟩, hS.F ht⟩) hS.2.2 dX3_readNumber_117
        · refine lv_iload_n (pc := 73) hx hb dX3_readNumber_73 rfl (lv_at hl 2 rfl) ?_
          refine lv_bipush (pc := 74) (v := zI 10) hx hb dX3_readNumber_74 zc_bipush_10 ?_
          refine zr_imul (pc := 76) (d := v * 10) hx hb dX3_readNumber_76 rfl ?_
          have htn := htx (tS tx tl p + (n : Int)) (by omega) (by omega)
          refine lv_aload_n (pc := 77) hx hb dX3_readNumber_77 rfl (lv_at hl 0 rfl) ?_
          refine zr_get (pc := 78) S hK hY.2.2.2.1 rfl i_X3 6 (by decide) (List.mem_of_getElem? (i := 3) rfl) rfl dX3_readNumber_78 ?_
          refine zr_get (pc := 81) S hK hY.2.1 rfl i_X5 1 (by decide) (List.mem_of_getElem? (i := 4) rfl) rfl dX3_readNumber_81 ?_
          refine lv_iload (pc := 84) hx hb dX3_readNumber_84 (lv_at hl 3 rfl) ?_
          refine zr_ni (pc := 86) (As := [.ref (ad 122), .int (zI (tS tx tl p + (n : Int)))]) (rest := [.int (zI (v * 10))]) S (ct_X7_at l D cI cT (ad 122) 120 _ (tS tx tl p + (n : Int)) (tx (tS tx tl p + (n : Int))) (by decide) (by omega) (by omega) (rfl) (by omega)) (va_cnB 2 hts gX3_readNumber_X7_at_n19 rfl rfl rfl (zK_nest hK 15 rfl) (hts _ (List.mem_of_getElem? (i := 17) rfl)) (by decide +kernel) ⟨Nat.le_of_ble_eq_true rfl, Nat.le_of_ble_eq_true rfl⟩) (hts _ (List.mem_of_getElem? (i := 16) rfl)) zs_ar hK (zAr_of (zK_int hK) hY.2.2.1) rfl hl.1 rfl (Nat.le_of_ble_eq_true rfl) dX3_readNumber_86 ⟨Nat.le_of_ble_eq_true rfl, Nat.le_of_ble_eq_true rfl⟩ (fun r_86 hr_86 => ?_)
          subst hr_86
          refine zr_iadd (pc := 89) (d := (v * 10) + (tx (tS tx tl p + (n : Int)))) hx hb dX3_readNumber_89 rfl ?_
          refine lv_bipush (pc := 90) (v := zI 48) hx hb dX3_readNumber_90 zc_bipush_48 ?_
          refine zr_isub (pc := 92) (d := ((v * 10) + (tx (tS tx tl p + (n : Int)))) - 48) hx hb dX3_readNumber_92 rfl ?_
          refine lv_sipush (pc := 93) (v := zI 1000) hx hb dX3_readNumber_93 zc_sipush_1000 ?_
          refine zr_mmin (pc := 96) hx hb (hml.trans hl.1.symm) hown (hts _ (List.mem_of_getElem? (i := 6) rfl)) (hts _ (List.mem_of_getElem? (i := 7) rfl)) (hts _ (List.mem_of_getElem? (i := 8) rfl)) (hts _ (List.mem_of_getElem? (i := 9) rfl)) (Nat.le_of_ble_eq_true rfl) (Nat.le_of_ble_eq_true rfl) (Nat.le_of_ble_eq_true rfl) (Nat.le_of_ble_eq_true rfl) dX3_readNumber_96 (by omega) (by decide) (rfl : _ = min (((v * 10) + (tx (tS tx tl p + (n : Int)))) - 48) 1000) ?_
          refine lv_istore_n (pc := 99) (lv' := [(3, .int (zI (min (((v * 10) + (tx (tS tx tl p + (n : Int)))) - 48) 1000))), (0, .ref (ad 123)), (1, .int (zI (w))), (4, .int (zI (tS tx tl p + (n : Int))))]) hx hb dX3_readNumber_99 rfl hl (by decide) rfl (fun ls hl => ?_)
          refine zr_iinc (pc := 100) (d := tS tx tl p + ((n + 1 : Nat) : Int)) (lv' := [(4, .int (zI (tS tx tl p + ((n + 1 : Nat) : Int)))), (3, .int (zI (min (((v * 10) + (tx (tS tx tl p + (n : Int)))) - 48) 1000))), (0, .ref (ad 123)), (1, .int (zI (w)))]) hx hb dX3_readNumber_100 hl (k := 3) rfl (by omega) (by decide) rfl (fun ls hl => ?_)
          refine lv_goto (pc := 103) (tgt := 64) hx hb dX3_readNumber_103 (by decide) ?_
          exact ih_64 (n + 1) ((min (((v * 10) + (tx (tS tx tl p + (n : Int)))) - 48) 1000)) (⟨by omega, by rw [nv_s, hv]⟩) (by omega) ls (lv_sub hl [2, 3, 1, 0] rfl)
      · refine lv_iconst (pc := 54) (v := zI 0) hx hb dX3_readNumber_54 rfl ?_
        exact W.zret (ty := .boolean) (v := zI (0)) hx hb hr (by first | rfl | decide) (fun tz ht hW => ⟨⟨zI (0), zI (0), rfl, rfl, by dsimp only; rw [ht]; exact ⟨rp, hY, Or.inr ⟨fun y => by first | exact c_47 y.1 | (rcases hz with u | u <;> first | exact y.2.1 u.2 | omega), rfl, fun _ _ => rfl⟩⟩⟩, hS.F ht⟩) hS.2.2 dX3_readNumber_55
  · skip
    refine lv_aload_n (pc := 4) hx hb dX3_readNumber_4 rfl (lv_at hl 0 rfl) ?_
    refine zr_get (pc := 5) S hK hY.2.2.2.1 rfl i_X3 2 (by decide) (List.mem_of_getElem? (i := 1) rfl) rfl dX3_readNumber_5 ?_
    refine zr_top (b := tE tx tl p) rD_2 ?_
    refine lv_aload_n (pc := 8) hx hb dX3_readNumber_8 rfl (lv_at hl 0 rfl) ?_
    refine zr_get (pc := 9) S hK hY.2.2.2.1 rfl i_X3 1 (by decide) (List.mem_of_getElem? (i := 2) rfl) rfl dX3_readNumber_9 ?_
    refine zr_top (b := tS tx tl p) rD_1 ?_
    refine zr_isub (pc := 12) (d := (tE tx tl p) - (tS tx tl p)) hx hb dX3_readNumber_12 rfl ?_
    refine lv_iconst (pc := 13) (v := zI 1) hx hb dX3_readNumber_13 rfl ?_
    refine zr_icmp_le (pc := 14) (tgt := 40) hx hb dX3_readNumber_14 (by decide) (by omega) (by decide) (fun c_14 => ?_) (fun c_14 => ?_)
    · refine lv_iconst (pc := 40) (v := zI 0) hx hb dX3_readNumber_40 rfl ?_
      exact J_41 (0) (by first | exact Or.inl ⟨rfl, by omega, c_33⟩ | exact Or.inr ⟨rfl, fun y => by first | exact c_33 y.2 | (have w := y.1; omega)⟩) ls (lv_sub hl [0, 1] rfl)
    · have htS := htx (tS tx tl p) (by omega) (by omega)
      refine lv_aload_n (pc := 17) hx hb dX3_readNumber_17 rfl (lv_at hl 0 rfl) ?_
      refine zr_get (pc := 18) S hK hY.2.2.2.1 rfl i_X3 6 (by decide) (List.mem_of_getElem? (i := 3) rfl) rfl dX3_readNumber_18 ?_
      refine zr_get (pc := 21) S hK hY.2.1 rfl i_X5 1 (by decide) (List.mem_of_getElem? (i := 4) rfl) rfl dX3_readNumber_21 ?_
      refine lv_aload_n (pc := 24) hx hb dX3_readNumber_24 rfl (lv_at hl 0 rfl) ?_
      refine zr_get (pc := 25) S hK hY.2.2.2.1 rfl i_X3 1 (by decide) (List.mem_of_getElem? (i := 2) rfl) rfl dX3_readNumber_25 ?_
      refine zr_top (b := tS tx tl p) rD_1 ?_
      refine zr_ni (pc := 28) (As := [.ref (ad 122), .int (zI (tS tx tl p))]) (rest := []) S (ct_X7_at l D cI cT (ad 122) 120 _ (tS tx tl p) (tx (tS tx tl p)) (by decide) (by omega) (by omega) (rfl) (by omega)) (va_cnB 2 hts gX3_readNumber_X7_at_n19 rfl rfl rfl (zK_nest hK 15 rfl) (hts _ (List.mem_of_getElem? (i := 17) rfl)) (by decide +kernel) ⟨Nat.le_of_ble_eq_true rfl, Nat.le_of_ble_eq_true rfl⟩) (hts _ (List.mem_of_getElem? (i := 16) rfl)) zs_ar hK (zAr_of (zK_int hK) hY.2.2.1) rfl hl.1 rfl (Nat.le_of_ble_eq_true rfl) dX3_readNumber_28 ⟨Nat.le_of_ble_eq_true rfl, Nat.le_of_ble_eq_true rfl⟩ (fun r_28 hr_28 => ?_)
      subst hr_28
      refine lv_bipush (pc := 31) (v := zI 48) hx hb dX3_readNumber_31 zc_bipush_48 ?_
      refine zr_icmp_ne (pc := 33) (tgt := 40) hx hb dX3_readNumber_33 (by decide) (by omega) (by decide) (fun c_33 => ?_) (fun c_33 => ?_)
      · refine lv_iconst (pc := 40) (v := zI 0) hx hb dX3_readNumber_40 rfl ?_
        exact J_41 (0) (by first | exact Or.inl ⟨rfl, by omega, c_33⟩ | exact Or.inr ⟨rfl, fun y => by first | exact c_33 y.2 | (have w := y.1; omega)⟩) ls (lv_sub hl [0, 1] rfl)
      · refine lv_iconst (pc := 36) (v := zI 1) hx hb dX3_readNumber_36 rfl ?_
        refine lv_goto (pc := 37) (tgt := 41) hx hb dX3_readNumber_37 (by decide) ?_
        exact J_41 (1) (by first | exact Or.inl ⟨rfl, by omega, c_33⟩ | exact Or.inr ⟨rfl, fun y => by first | exact c_33 y.2 | (have w := y.1; omega)⟩) ls (lv_sub hl [0, 1] rfl)
