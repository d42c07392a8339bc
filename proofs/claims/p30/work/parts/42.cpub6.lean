set_option maxHeartbeats 4000000 in
set_option maxRecDepth 100000 in
theorem ct_X5_add (l : Launch) (D : va_G) (cI cT : ClassId) (sz : Nat) (ad : Nat → Nat) (tl : Int) (tx rd rp : Int → Int) (hJ7 : zJ ad 127) (c : Int) (t0 : 0 ≤ tl) (t1 : tl < 120) : zMi l yX5_add wsX5_add ({ frames := 1, cells := 0, slots := 0, locals := 22 }) D cI cT [.ref (ad 121), .int (zI (c))] sz (fun _ H => cY D cI ad tl tx rd rp H) (fun rr H => rr = zI (tl + 1) ∧ cY D cI ad (tl + 1) (zu tx tl c) rd rp H) (fun q => (q = ad 121 ∨ q = ad 122) ∨ sz ≤ q) := by
  refine Met.ofW (cc := cX5_add) (maxL := 2) (ret := (some .int)) (by decide) rfl ?_
  intro p_ e_ s m_ args below meth c_ s₁ B hml hv
  obtain ⟨rfl, hsz, hK, hF⟩ := hv
  have hx := B.exec
  have hb := B.bytes
  have hr := B.returns
  have hts := atoms_spec (ws := wsX5_add) B.pre
  have hown : s.vm.findClass RX5 = some m_.cls := findClass_of_methodNamed B.named
  have hlocks := B.notSynchronized
  have S : CallFix p_ m_ c_ cX5_add 2 s _ wsX5_add RX5 := ⟨hx, hb, hml, hown, hts⟩
  have i_X5 : ∀ w ∈ u_ws RX5 TX5 2, w ∈ wsX5_add := fun _ h => List.mem_cons_of_mem _ (List.mem_append_right _ h)
  subst hsz
  generalize hAe : (fun q => (q = ad 121 ∨ q = ad 122) ∨ s.heap.size ≤ q) = A
  have hAn : ∀ q : Nat, s.heap.size ≤ q → A q := fun q h => by rw [← hAe]; exact Or.inr h
  obtain ⟨H, hHe⟩ : ∃ H : Heap, H = s.heap := ⟨_, rfl⟩
  rw [← hHe] at hF ⊢
  have hS : va_S A s.heap H [] := by rw [hHe]; exact va_S.rf
  have hY := hF
  have hA121 : A (ad 121) := by rw [← hAe]; exact Or.inl (Or.inl rfl)
  have hA122 : A (ad 122) := by rw [← hAe]; exact Or.inl (Or.inr rfl)
  have hl := lv_entry ([.ref (ad 121), .int (zI (c))]) (n := 2) (Nat.le_of_ble_eq_true rfl)
  rw [lg_entry_eq]
  generalize (lg_sl ([.ref (ad 121), .int (zI (c))]) ++ List.replicate (2 - (lg_sl ([.ref (ad 121), .int (zI (c))])).length) Slot.unset).toArray = ls at hl ⊢
  have hl : lv_has ls 2 [(0, .ref (ad 121)), (1, .int (zI (c)))] := hl
  refine lv_aload_n (pc := 0) hx hb dX5_add_0 rfl (lv_at hl 0 rfl) ?_
  refine zr_get (pc := 1) S hK hY.2.1 rfl i_X5 1 (by decide) (List.mem_of_getElem? (i := 1) rfl) rfl dX5_add_1 ?_
  refine lv_aload_n (pc := 4) hx hb dX5_add_4 rfl (lv_at hl 0 rfl) ?_
  refine zr_get (pc := 5) S hK hY.2.1 rfl i_X5 0 (by decide) (List.mem_of_getElem? (i := 2) rfl) rfl dX5_add_5 ?_
  refine lv_iload_n (pc := 8) hx hb dX5_add_8 rfl (lv_at hl 1 rfl) ?_
  refine zr_nwv (pc := 9) (As := [.ref (ad 122), .int (zI (tl)), .int (zI (c))]) (rest := []) S (ct_X7_put l D cI cT H.size (ad 122) 120 _ tl c (by decide) (by omega) (by omega)) (va_cnB 3 hts gX5_add_X7_put_n19 rfl rfl rfl (zK_nest hK 14 rfl) (hts _ (List.mem_of_getElem? (i := 4) rfl)) (by decide +kernel) ⟨Nat.le_of_ble_eq_true rfl, Nat.le_of_ble_eq_true rfl⟩) (hts _ (List.mem_of_getElem? (i := 3) rfl)) zs0 hK hY.2.2.1 hS (fun q h => h.elim (fun e => by rw [e]; exact hA122) (fun z => hAn q (Nat.le_trans hS.1 z))) rfl hl.1 rfl (Nat.le_of_ble_eq_true rfl) dX5_add_9 ⟨Nat.le_of_ble_eq_true rfl, Nat.le_of_ble_eq_true rfl⟩ (fun H locs hG hz hk hS => ?_)
  have hY := cY_tx (zu tx tl c) hJ7 hY (fun q h1 h2 => hk q h1 (fun z => z.elim h2 (fun y => absurd h1 (Nat.not_lt.mpr y)))) hG
  refine lv_aload_n (pc := 12) hx hb dX5_add_12 rfl (lv_at hl 0 rfl) ?_
  refine lv_dup (pc := 13) hx hb dX5_add_13 rfl ?_
  refine zr_get (pc := 14) S hK hY.2.1 rfl i_X5 0 (by decide) (List.mem_of_getElem? (i := 2) rfl) rfl dX5_add_14 ?_
  refine lv_iconst (pc := 17) (v := zI 1) hx hb dX5_add_17 rfl ?_
  refine zr_iadd (pc := 18) (d := tl + 1) hx hb dX5_add_18 rfl ?_
  refine zr_put (pc := 19) S hK hY.2.1 rfl i_X5 tyX5 tyX5_ok nmX5 0 (by decide) (List.mem_of_getElem? (i := 2) rfl) rfl rfl rfl (Nat.le_of_ble_eq_true rfl) hS hA121 dX5_add_19 (fun H locs hO hz hk hS => ?_)
  have hY := cY_tl (tl + 1) hJ7 hY (fun q h z => hk q h z) hO
  refine lv_aload_n (pc := 22) hx hb dX5_add_22 rfl (lv_at hl 0 rfl) ?_
  refine zr_get (pc := 23) S hK hY.2.1 rfl i_X5 0 (by decide) (List.mem_of_getElem? (i := 2) rfl) rfl dX5_add_23 ?_
  exact W.iret (v := zI (tl + 1)) hx hb hr (fun tz ht hW => ⟨⟨zI (tl + 1), zI (tl + 1), rfl, rfl, by dsimp only; rw [ht]; exact ⟨rfl, hY⟩⟩, hS.F ht⟩) hS.2.2 dX5_add_26
set_option maxHeartbeats 4000000 in
set_option maxRecDepth 100000 in
theorem ct_X5_empty (l : Launch) (D : va_G) (cI cT : ClassId) (sz : Nat) (ad : Nat → Nat) (tl : Int) (tx rd rp : Int → Int) (hJ7 : zJ ad 127) : zMi l yX5_empty wsX5_empty ({ frames := 0, cells := 0, slots := 0, locals := 0 }) D cI cT [.ref (ad 121)] sz (fun _ H => cY D cI ad tl tx rd rp H) (fun rr H => rr = zI tl ∧ cY D cI ad 0 tx rd rp H) (fun q => (q = ad 121 ∨ q = ad 122) ∨ sz ≤ q) := by
  refine Met.ofW (cc := cX5_empty) (maxL := 2) (ret := (some .int)) (by decide) rfl ?_
  intro p_ e_ s m_ args below meth c_ s₁ B hml hv
  obtain ⟨rfl, hsz, hK, hF⟩ := hv
  have hx := B.exec
  have hb := B.bytes
  have hr := B.returns
  have hts := atoms_spec (ws := wsX5_empty) B.pre
  have hown : s.vm.findClass RX5 = some m_.cls := findClass_of_methodNamed B.named
  have hlocks := B.notSynchronized
  have S : CallFix p_ m_ c_ cX5_empty 2 s _ wsX5_empty RX5 := ⟨hx, hb, hml, hown, hts⟩
  have i_X5 : ∀ w ∈ u_ws RX5 TX5 2, w ∈ wsX5_empty := fun _ h => List.mem_cons_of_mem _ (List.mem_append_right _ h)
  subst hsz
  generalize hAe : (fun q => (q = ad 121 ∨ q = ad 122) ∨ s.heap.size ≤ q) = A
  have hAn : ∀ q : Nat, s.heap.size ≤ q → A q := fun q h => by rw [← hAe]; exact Or.inr h
  obtain ⟨H, hHe⟩ : ∃ H : Heap, H = s.heap := ⟨_, rfl⟩
  rw [← hHe] at hF ⊢
  have hS : va_S A s.heap H [] := by rw [hHe]; exact va_S.rf
  have hY := hF
  have hA121 : A (ad 121) := by rw [← hAe]; exact Or.inl (Or.inl rfl)
  have hA122 : A (ad 122) := by rw [← hAe]; exact Or.inl (Or.inr rfl)
  have hl := lv_entry ([.ref (ad 121)]) (n := 2) (Nat.le_of_ble_eq_true rfl)
  rw [lg_entry_eq]
  generalize (lg_sl ([.ref (ad 121)]) ++ List.replicate (2 - (lg_sl ([.ref (ad 121)])).length) Slot.unset).toArray = ls at hl ⊢
  have hl : lv_has ls 2 [(0, .ref (ad 121))] := hl
  refine lv_aload_n (pc := 0) hx hb dX5_empty_0 rfl (lv_at hl 0 rfl) ?_
  refine zr_get (pc := 1) S hK hY.2.1 rfl i_X5 0 (by decide) (List.mem_of_getElem? (i := 1) rfl) rfl dX5_empty_1 ?_
  refine lv_istore_n (pc := 4) (lv' := [(1, .int (zI (tl))), (0, .ref (ad 121))]) hx hb dX5_empty_4 rfl hl (by decide) rfl (fun ls hl => ?_)
  refine lv_aload_n (pc := 5) hx hb dX5_empty_5 rfl (lv_at hl 1 rfl) ?_
  refine lv_iconst (pc := 6) (v := zI 0) hx hb dX5_empty_6 rfl ?_
  refine zr_put (pc := 7) S hK hY.2.1 rfl i_X5 tyX5 tyX5_ok nmX5 0 (by decide) (List.mem_of_getElem? (i := 1) rfl) rfl rfl rfl (Nat.le_of_ble_eq_true rfl) hS hA121 dX5_empty_7 (fun H locs hO hz hk hS => ?_)
  have hY := cY_tl (0) hJ7 hY (fun q h z => hk q h z) hO
  refine lv_iload_n (pc := 10) hx hb dX5_empty_10 rfl (lv_at hl 0 rfl) ?_
  exact W.iret (v := zI (tl)) hx hb hr (fun tz ht hW => ⟨⟨zI (tl), zI (tl), rfl, rfl, by dsimp only; rw [ht]; exact ⟨rfl, hY⟩⟩, hS.F ht⟩) hS.2.2 dX5_empty_11
set_option maxHeartbeats 4000000 in
set_option maxRecDepth 100000 in
theorem ct_X7_append (l : Launch) (D : va_G) (cI cT : ClassId) (sz : Nat) (ad : Nat → Nat) (σ : Nat → Int → Int) (g : Int → Int) (hR : Rel σ g) (hI : Inv g) (σs : Nat → Nat → Int → Int) (n m : Nat) (hs : Nat → Int → Int) (tl : Int) (tx rd rp : Int → Int) (hn : n ≤ 5) (hm : m < 5) (hC : cH σs n m hs) (hJ7 : zJ ad 127) (t0 : 0 ≤ tl) (t1 : tl ≤ 120) (c : Int) (r_c : -2147483648 ≤ c ∧ c ≤ 2147483647) : zMi l yX7_append wsX7_append ({ frames := 2, cells := 0, slots := 0, locals := 43 }) D cI cT [.ref (ad 120), .int (zI (c))] sz (fun _ H => zW D ad 20 (sC cI ad σ) H ∧ hO1 D ad (n : Int) (m : Int) H ∧ hO2 D cT ad H ∧ hQs D cI ad σs H ∧ cY D cI ad tl tx rd rp H) (fun rr H => ∃ (tl' : Int) (tx' : Int → Int), oT tl tx c tl' tx' rr ∧ zW D ad 20 (sC cI ad σ) H ∧ hO1 D ad (n : Int) (m : Int) H ∧ hO2 D cT ad H ∧ hQs D cI ad σs H ∧ cY D cI ad tl' tx' rd rp H) (zR ad 127 sz) := by
  refine Met.ofW (cc := cX7_append) (maxL := 2) (ret := (some .int)) (by decide) rfl ?_
  intro p_ e_ s m_ args below meth c_ s₁ B hml hv
  obtain ⟨rfl, hsz, hK, hF⟩ := hv
  have hx := B.exec
  have hb := B.bytes
  have hr := B.returns
  have hts := atoms_spec (ws := wsX7_append) B.pre
  have hown : s.vm.findClass RX7 = some m_.cls := findClass_of_methodNamed B.named
  have hlocks := B.notSynchronized
  have S : CallFix p_ m_ c_ cX7_append 2 s _ wsX7_append RX7 := ⟨hx, hb, hml, hown, hts⟩
  have i_X7 : ∀ w ∈ u_ws RX7 TX7 4, w ∈ wsX7_append := fun _ h => List.mem_cons_of_mem _ (List.mem_append_left _ (List.mem_append_right _ h))
  have i_X5 : ∀ w ∈ u_ws RX5 TX5 2, w ∈ wsX7_append := fun _ h => List.mem_cons_of_mem _ (List.mem_append_right _ h)
  subst hsz
  generalize hAe : (zR ad 127 s.heap.size) = A
  have hAn : ∀ q : Nat, s.heap.size ≤ q → A q := fun q h => by rw [← hAe]; exact Or.inr h
  obtain ⟨H, hHe⟩ : ∃ H : Heap, H = s.heap := ⟨_, rfl⟩
  rw [← hHe] at hF ⊢
  have hS : va_S A s.heap H [] := by rw [hHe]; exact va_S.rf
  obtain ⟨hP, hH1, hH2, hQ, hY⟩ := hF
  have hA7 : ∀ k : Nat, k < 127 → A (ad k) := fun k hk => by rw [← hAe]; exact Or.inl ⟨k, hk, rfl⟩
  have hAin : ∀ k : Nat, k < 20 → A (ad k) := fun k hk => hA7 k (by omega)
  have hJ : zJ ad 20 := zJ_le hJ7 (by decide)
  have hl := lv_entry ([.ref (ad 120), .int (zI (c))]) (n := 2) (Nat.le_of_ble_eq_true rfl)
  rw [lg_entry_eq]
  generalize (lg_sl ([.ref (ad 120), .int (zI (c))]) ++ List.replicate (2 - (lg_sl ([.ref (ad 120), .int (zI (c))])).length) Slot.unset).toArray = ls at hl ⊢
  have hl : lv_has ls 2 [(0, .ref (ad 120)), (1, .int (zI (c)))] := hl
  refine lv_iload_n (pc := 0) hx hb dX7_append_0 rfl (lv_at hl 1 rfl) ?_
  refine lv_iconst (pc := 1) (v := zI 1) hx hb dX7_append_1 rfl ?_
  refine lv_sipush (pc := 2) (v := zI 255) hx hb dX7_append_2 zc_sipush_255 ?_
  refine zr_si (pc := 5) (As := [.int (zI (c)), .int (zI (1)), .int (zI (255))]) (rest := []) S (ct_X7_isWithin l D cI cT c 1 255 (by omega) (by decide) (by decide)) (va_cwS 3 hts gX7_append_X7_isWithin rfl rfl rfl (by decide +kernel) ⟨Nat.le_of_ble_eq_true rfl, Nat.le_of_ble_eq_true rfl⟩) zs0 hK trivial rfl hl.1 rfl (Nat.le_of_ble_eq_true rfl) dX7_append_5 ⟨Nat.le_of_ble_eq_true rfl, Nat.le_of_ble_eq_true rfl⟩ (fun r_5 hr_5 => ?_)
  rcases hr_5 with ⟨hb_5, rfl⟩ | ⟨hb_5, rfl⟩
  · refine zr_if_ne (pc := 8) (tgt := 15) hx hb dX7_append_8 (by decide) (by decide) (fun _ => ?_) (fun z => absurd z (by decide))
    refine lv_aload_n (pc := 15) hx hb dX7_append_15 rfl (lv_at hl 0 rfl) ?_
    refine zr_get (pc := 16) S hK hY.1 rfl i_X7 2 (by decide) (List.mem_of_getElem? (i := 1) rfl) rfl dX7_append_16 ?_
    refine zr_get (pc := 19) S hK hY.2.1 rfl i_X5 0 (by decide) (List.mem_of_getElem? (i := 2) rfl) rfl dX7_append_19 ?_
    refine lv_bipush (pc := 22) (v := zI 120) hx hb dX7_append_22 zc_bipush_120 ?_
    refine zr_icmp_lt (pc := 24) (tgt := 31) hx hb dX7_append_24 (by decide) (by omega) (by decide) (fun c_24 => ?_) (fun c_24 => ?_)
    · refine lv_aload_n (pc := 31) hx hb dX7_append_31 rfl (lv_at hl 0 rfl) ?_
      refine zr_get (pc := 32) S hK hY.1 rfl i_X7 2 (by decide) (List.mem_of_getElem? (i := 1) rfl) rfl dX7_append_32 ?_
      refine lv_iload_n (pc := 35) hx hb dX7_append_35 rfl (lv_at hl 1 rfl) ?_
      refine zr_vwi (pc := 36) (As := [.int (zI (c))]) (rest := []) S (ct_X5_add l D cI cT H.size ad tl tx rd rp hJ7 c (by omega) (by omega)) (cwV 1 hts gX7_append_X5_add rfl rfl rfl (by decide +kernel) ⟨Nat.le_of_ble_eq_true rfl, Nat.le_of_ble_eq_true rfl⟩) zs0 hK hY (zr_recv hK hY.2.1 rfl) hS (fun q h => h.elim (fun z => z.elim (fun e => by rw [e]; exact hA7 121 (by decide)) (fun e => by rw [e]; exact hA7 122 (by decide))) (fun z => hAn q (Nat.le_trans hS.1 z))) rfl hl.1 rfl (Nat.le_of_ble_eq_true rfl) dX7_append_36 ⟨Nat.le_of_ble_eq_true rfl, Nat.le_of_ble_eq_true rfl⟩ (fun r_36 H locs hG hz hk hS => ?_)
      obtain ⟨rfl, hY⟩ := hG
      have hP := hP.keep hk (fun k k0 z => z.elim (fun z => z.elim (fun e => absurd (hJ7 k 121 (by omega) (by decide) e) (by omega)) (fun e => absurd (hJ7 k 122 (by omega) (by decide) e) (by omega))) (fun y => absurd (hP.lt k0) (Nat.not_lt.mpr y)))
      have hH1 := hH1.kept (hk _ hH1.lt (fun z => z.elim (fun z => z.elim (fun e => absurd (hJ7 125 121 (by omega) (by decide) e) (by omega)) (fun e => absurd (hJ7 125 122 (by omega) (by decide) e) (by omega))) (fun y => absurd hH1.lt (Nat.not_lt.mpr y))))
      have hH2 := hH2.kept (hk _ hH2.lt (fun z => z.elim (fun z => z.elim (fun e => absurd (hJ7 126 121 (by omega) (by decide) e) (by omega)) (fun e => absurd (hJ7 126 122 (by omega) (by decide) e) (by omega))) (fun y => absurd hH2.lt (Nat.not_lt.mpr y))))
      have hQ : hQs D cI ad _ H := fun j hj => (hQ j hj).keep hk (fun k k0 z => z.elim (fun z => z.elim (fun e => hd_ne hJ7 hj k0 (by decide) (by omega) e) (fun e => hd_ne hJ7 hj k0 (by decide) (by omega) e)) (fun y => absurd ((hQ j hj).lt k0) (Nat.not_lt.mpr y)))
      exact W.iret (v := zI (tl + 1)) hx hb hr (fun tz ht hW => ⟨⟨zI (tl + 1), zI (tl + 1), rfl, rfl, by dsimp only; rw [ht]; exact ⟨_, _, oT_ok ((tft (by omega)).trans (tft (by omega))) rfl, hP, hH1, hH2, hQ, hY⟩⟩, hS.F ht⟩) hS.2.2 dX7_append_39
    · refine lv_sipush (pc := 27) (v := zI (-2003)) hx hb dX7_append_27 zc_sipush_m2003 ?_
      exact W.iret (v := zI ((-2003))) hx hb hr (fun tz ht hW => ⟨⟨zI ((-2003)), zI ((-2003)), rfl, rfl, by dsimp only; rw [ht]; exact ⟨_, _, oT_no ((tft (by omega)).trans (tff (by omega))) (by decide), hP, hH1, hH2, hQ, hY⟩⟩, hS.F ht⟩) hS.2.2 dX7_append_30
  · refine zr_if_ne (pc := 8) (tgt := 15) hx hb dX7_append_8 (by decide) (by decide) (fun z => absurd z (by decide)) (fun _ => ?_)
    refine lv_sipush (pc := 11) (v := zI (-2001)) hx hb dX7_append_11 zc_sipush_m2001 ?_
    exact W.iret (v := zI ((-2001))) hx hb hr (fun tz ht hW => ⟨⟨zI ((-2001)), zI ((-2001)), rfl, rfl, by dsimp only; rw [ht]; exact ⟨_, _, oT_no (tff (fun q => by omega)) (by decide), hP, hH1, hH2, hQ, hY⟩⟩, hS.F ht⟩) hS.2.2 dX7_append_14
set_option maxHeartbeats 4000000 in
set_option maxRecDepth 100000 in
theorem ct_X7_undo (l : Launch) (D : va_G) (cI cT : ClassId) (sz : Nat) (ad : Nat → Nat) (σ : Nat → Int → Int) (g : Int → Int) (hR : Rel σ g) (hI : Inv g) (σs : Nat → Nat → Int → Int) (n m : Nat) (hs : Nat → Int → Int) (tl : Int) (tx rd rp : Int → Int) (hn : n ≤ 5) (hm : m < 5) (hC : cH σs n m hs) (hJ7 : zJ ad 127) (hIh : ∀ j : Nat, j < n → Inv (hs j)) : zMi l yX7_undo wsX7_undo ({ frames := 5, cells := 0, slots := 0, locals := 116 }) D cI cT [.ref (ad 120)] sz (fun _ H => zW D ad 20 (sC cI ad σ) H ∧ hO1 D ad (n : Int) (m : Int) H ∧ hO2 D cT ad H ∧ hQs D cI ad σs H ∧ cY D cI ad tl tx rd rp H) (fun rr H => ∃ (σ' : Nat → Int → Int) (g' : Int → Int) (n' m' : Nat) (hs' : Nat → Int → Int), (Rel σ' g' ∧ cH σs n' m' hs' ∧ n' ≤ 5 ∧ m' < 5) ∧ oU g n hs g' n' hs' rr ∧ zW D ad 20 (sC cI ad σ') H ∧ hO1 D ad (n' : Int) (m' : Int) H ∧ hO2 D cT ad H ∧ hQs D cI ad σs H ∧ cY D cI ad tl tx rd rp H) (zR ad 127 sz) := by
  refine Met.ofW (cc := cX7_undo) (maxL := 1) (ret := (some .int)) (by decide) rfl ?_
  intro p_ e_ s m_ args below meth c_ s₁ B hml hv
  obtain ⟨rfl, hsz, hK, hF⟩ := hv
  have hx := B.exec
  have hb := B.bytes
  have hr := B.returns
  have hts := atoms_spec (ws := wsX7_undo) B.pre
  have hown : s.vm.findClass RX7 = some m_.cls := findClass_of_methodNamed B.named
  have hlocks := B.notSynchronized
  have S : CallFix p_ m_ c_ cX7_undo 1 s _ wsX7_undo RX7 := ⟨hx, hb, hml, hown, hts⟩
  have i_X7 : ∀ w ∈ u_ws RX7 TX7 4, w ∈ wsX7_undo := fun _ h => List.mem_cons_of_mem _ (List.mem_append_left _ (List.mem_append_left _ (List.mem_append_left _ (List.mem_append_left _ (List.mem_append_left _ (List.mem_append_right _ h))))))
  have i_X2 : ∀ w ∈ u_ws RX2 TX2 3, w ∈ wsX7_undo := fun _ h => List.mem_cons_of_mem _ (List.mem_append_left _ (List.mem_append_left _ (List.mem_append_left _ (List.mem_append_left _ (List.mem_append_right _ h)))))
  subst hsz
  generalize hAe : (zR ad 127 s.heap.size) = A
  have hAn : ∀ q : Nat, s.heap.size ≤ q → A q := fun q h => by rw [← hAe]; exact Or.inr h
  obtain ⟨H, hHe⟩ : ∃ H : Heap, H = s.heap := ⟨_, rfl⟩
  rw [← hHe] at hF ⊢
  have hS : va_S A s.heap H [] := by rw [hHe]; exact va_S.rf
  obtain ⟨hP, hH1, hH2, hQ, hY⟩ := hF
  have hA7 : ∀ k : Nat, k < 127 → A (ad k) := fun k hk => by rw [← hAe]; exact Or.inl ⟨k, hk, rfl⟩
  have hAin : ∀ k : Nat, k < 20 → A (ad k) := fun k hk => hA7 k (by omega)
  have hJ : zJ ad 20 := zJ_le hJ7 (by decide)
  have hl := lv_entry ([.ref (ad 120)]) (n := 1) (Nat.le_of_ble_eq_true rfl)
  rw [lg_entry_eq]
  generalize (lg_sl ([.ref (ad 120)]) ++ List.replicate (1 - (lg_sl ([.ref (ad 120)])).length) Slot.unset).toArray = ls at hl ⊢
  have hl : lv_has ls 1 [(0, .ref (ad 120))] := hl
  refine lv_aload_n (pc := 0) hx hb dX7_undo_0 rfl (lv_at hl 0 rfl) ?_
  refine zr_get (pc := 1) S hK hY.1 rfl i_X7 1 (by decide) (List.mem_of_getElem? (i := 1) rfl) rfl dX7_undo_1 ?_
  refine zr_get (pc := 4) S hK hH1 rfl i_X2 0 (by decide) (List.mem_of_getElem? (i := 2) rfl) rfl dX7_undo_4 ?_
  refine zr_if_gt (pc := 7) (tgt := 14) hx hb dX7_undo_7 (by decide) (by omega) (fun c_7 => ?_) (fun c_7 => ?_)
  · obtain ⟨k, hk5, hkm⟩ : ∃ k : Nat, k < 5 ∧ ((0 < m ∧ k + 1 = m) ∨ (m = 0 ∧ k = 4)) := by rcases Nat.eq_zero_or_pos m with e | e <;> first | exact ⟨4, by decide, Or.inr ⟨e, rfl⟩⟩ | exact ⟨m - 1, by omega, Or.inl ⟨e, by omega⟩⟩
    have hpop := cH_pop (k := k) hC hn (by omega) hm (by omega)
    refine lv_aload_n (pc := 14) hx hb dX7_undo_14 rfl (lv_at hl 0 rfl) ?_
    refine zr_get (pc := 15) S hK hY.1 rfl i_X7 1 (by decide) (List.mem_of_getElem? (i := 1) rfl) rfl dX7_undo_15 ?_
    refine lv_aload_n (pc := 18) hx hb dX7_undo_18 rfl (lv_at hl 0 rfl) ?_
    refine zr_get (pc := 19) S hK hY.1 rfl i_X7 0 (by decide) (List.mem_of_getElem? (i := 3) rfl) rfl dX7_undo_19 ?_
    refine zr_vwv (pc := 22) (As := [.ref (ad 0)]) (rest := []) S (ct_X2_restore l D cI cT H.size ad σ σs n m k hn (by omega) hm hk5 hkm hJ7) (cwV 1 hts gX7_undo_X2_restore rfl rfl rfl (by decide +kernel) ⟨Nat.le_of_ble_eq_true rfl, Nat.le_of_ble_eq_true rfl⟩) zs0 hK ⟨hP, hH1, hH2, hQ⟩ (zr_recv hK hH1 rfl) hS (fun q h => h.elim (fun z => z.elim (fun e => by rw [e]; exact hA7 125 (by decide)) (fun ⟨k, k0, e⟩ => by rw [e]; exact hA7 k (by omega))) (fun z => hAn q (Nat.le_trans hS.1 z))) rfl hl.1 rfl (Nat.le_of_ble_eq_true rfl) dX7_undo_22 ⟨Nat.le_of_ble_eq_true rfl, Nat.le_of_ble_eq_true rfl⟩ (fun H locs hG hz hk hS => ?_)
    obtain ⟨hP, hH1, hH2, hQ⟩ := hG
    have hY := hY.keep hk (fun k k0 k1 hlt z => z.elim (fun z => z.elim (fun e => absurd (hJ7 k 125 (by omega) (by decide) e) (by omega)) (fun ⟨i, i0, e⟩ => absurd (hJ7 k i (by omega) (by omega) e) (by omega))) (fun y => absurd hlt (Nat.not_lt.mpr y)))
    refine lv_aload_n (pc := 25) hx hb dX7_undo_25 rfl (lv_at hl 0 rfl) ?_
    refine zr_get (pc := 26) S hK hY.1 rfl i_X7 1 (by decide) (List.mem_of_getElem? (i := 1) rfl) rfl dX7_undo_26 ?_
    refine zr_get (pc := 29) S hK hH1 rfl i_X2 0 (by decide) (List.mem_of_getElem? (i := 2) rfl) rfl dX7_undo_29 ?_
    exact W.iret (v := zI (((n - 1 : Nat) : Int))) hx hb hr (fun tz ht hW => ⟨⟨zI (((n - 1 : Nat) : Int)), zI (((n - 1 : Nat) : Int)), rfl, rfl, by dsimp only; rw [ht]; exact ⟨_, _, _, _, _, ⟨rel_congr (rel_cp hpop.2) (hIh (n - 1) (by omega)) (fun x x0 x1 => cpy_in g (hs (n - 1)) x x0 x1), hpop.1, by omega, hk5⟩, Or.inr ⟨by omega, rfl, rfl, rfl, rfl⟩, hP, hH1, hH2, hQ, hY⟩⟩, hS.F ht⟩) hS.2.2 dX7_undo_32
  · refine lv_sipush (pc := 10) (v := zI (-2002)) hx hb dX7_undo_10 zc_sipush_m2002 ?_
    exact W.iret (v := zI ((-2002))) hx hb hr (fun tz ht hW => ⟨⟨zI ((-2002)), zI ((-2002)), rfl, rfl, by dsimp only; rw [ht]; exact ⟨_, _, _, _, _, ⟨hR, hC, hn, hm⟩, Or.inl ⟨by omega, rfl, rfl, rfl, rfl⟩, hP, hH1, hH2, hQ, hY⟩⟩, hS.F ht⟩) hS.2.2 dX7_undo_13
