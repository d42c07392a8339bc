set_option maxHeartbeats 4000000 in
set_option maxRecDepth 100000 in
theorem ct_X7_isSetOfCostumes (l : Launch) (D : va_G) (cI cT : ClassId) (ad : Nat → Nat) (σ : Nat → Int → Int) (g : Int → Int) (hR : Rel σ g) (hI : Inv g) (tl : Int) (tx rd rp : Int → Int) (ld : Int) (r_ld : -2147483648 ≤ ld ∧ ld ≤ 2147483647) : zMr l yX7_isSetOfCostumes wsX7_isSetOfCostumes ({ frames := 0, cells := 0, slots := 0, locals := 0 }) D cI cT [.ref (ad 120), .int (zI (ld))] (fun _ H => zW D ad 20 (sC cI ad σ) H ∧ cY D cI ad tl tx rd rp H) (fun r => bz (0 ≤ ld ∧ ld < pw (g 0)) r) := by
  refine Met.ofW (cc := cX7_isSetOfCostumes) (maxL := 2) (ret := (some .boolean)) (by decide) rfl ?_
  intro p_ e_ s m_ args below meth c_ s₁ B hml hv
  obtain ⟨rfl, hK, hF⟩ := hv
  have hx := B.exec
  have hb := B.bytes
  have hr := B.returns
  have hts := atoms_spec (ws := wsX7_isSetOfCostumes) B.pre
  have hown : s.vm.findClass RX7 = some m_.cls := findClass_of_methodNamed B.named
  have hlocks := B.notSynchronized
  have S : CallFix p_ m_ c_ cX7_isSetOfCostumes 2 s _ wsX7_isSetOfCostumes RX7 := ⟨hx, hb, hml, hown, hts⟩
  have i_X7 : ∀ w ∈ u_ws RX7 TX7 4, w ∈ wsX7_isSetOfCostumes := fun _ h => List.mem_cons_of_mem _ (List.mem_append_left _ (List.mem_append_left _ (List.mem_append_right _ h)))
  have i_X4 : ∀ w ∈ u_ws RX4 TX4 9, w ∈ wsX7_isSetOfCostumes := fun _ h => List.mem_cons_of_mem _ (List.mem_append_left _ (List.mem_append_right _ h))
  have i_X6 : ∀ w ∈ u_ws RX6 TX6 9, w ∈ wsX7_isSetOfCostumes := fun _ h => List.mem_cons_of_mem _ (List.mem_append_right _ h)
  obtain ⟨hP, hY⟩ := hF
  have hnC := iv_nC hI
  obtain ⟨d, hd1, hd2, hd3⟩ := ush hnC.1 hnC.2 r_ld
  have hl := lv_entry ([.ref (ad 120), .int (zI (ld))]) (n := 2) (Nat.le_of_ble_eq_true rfl)
  rw [lg_entry_eq]
  generalize (lg_sl ([.ref (ad 120), .int (zI (ld))]) ++ List.replicate (2 - (lg_sl ([.ref (ad 120), .int (zI (ld))])).length) Slot.unset).toArray = ls at hl ⊢
  have hl : lv_has ls 2 [(0, .ref (ad 120)), (1, .int (zI (ld)))] := hl
  refine lv_iload_n (pc := 0) hx hb dX7_isSetOfCostumes_0 rfl (lv_at hl 1 rfl) ?_
  refine lv_aload_n (pc := 1) hx hb dX7_isSetOfCostumes_1 rfl (lv_at hl 0 rfl) ?_
  refine zr_get (pc := 2) S hK hY.1 rfl i_X7 0 (by decide) (List.mem_of_getElem? (i := 1) rfl) rfl dX7_isSetOfCostumes_2 ?_
  refine zr_get (pc := 5) S hK (hP 0 (by decide)) rfl i_X4 0 (by decide) (List.mem_of_getElem? (i := 2) rfl) rfl dX7_isSetOfCostumes_5 ?_
  refine zr_get (pc := 8) S hK (hP 1 (by decide)) rfl i_X6 0 (by decide) (List.mem_of_getElem? (i := 3) rfl) rfl dX7_isSetOfCostumes_8 ?_
  refine zr_top (b := g 0) (rl_nC hR) ?_
  refine zr_iushr (pc := 11) (d := d) hx hb dX7_isSetOfCostumes_11 hd2 ?_
  refine zr_if_ne (pc := 12) (tgt := 19) hx hb dX7_isSetOfCostumes_12 (by decide) (by omega) (fun c_12 => ?_) (fun c_12 => ?_)
  · refine lv_iconst (pc := 19) (v := zI 0) hx hb dX7_isSetOfCostumes_19 rfl ?_
    exact W.zret (ty := .boolean) (v := zI (0)) hx hb hr (by first | rfl | decide) (fun tz ht hW => ⟨_, rfl, bz_f (fun q => c_12 (hd3.mpr q)), ht⟩) (fun _ h => by cases h) dX7_isSetOfCostumes_20
  · refine lv_iconst (pc := 15) (v := zI 1) hx hb dX7_isSetOfCostumes_15 rfl ?_
    refine lv_goto (pc := 16) (tgt := 20) hx hb dX7_isSetOfCostumes_16 (by decide) ?_
    exact W.zret (ty := .boolean) (v := zI (1)) hx hb hr (by first | rfl | decide) (fun tz ht hW => ⟨_, rfl, bz_t (hd3.mp c_12), ht⟩) (fun _ h => by cases h) dX7_isSetOfCostumes_20
set_option maxHeartbeats 4000000 in
set_option maxRecDepth 100000 in
theorem ct_X7_washable (l : Launch) (D : va_G) (cI cT : ClassId) (bs : Nat) (ad : Nat → Nat) (σ : Nat → Int → Int) (g : Int → Int) (hR : Rel σ g) (hI : Inv g) (tl : Int) (tx rd rp : Int → Int) (p : Int) (q : Int) (r_p : -2147483648 ≤ p ∧ p ≤ 2147483647) (r_q : -2147483648 ≤ q ∧ q ≤ 2147483647) : zMr l yX7_washable wsX7_washable ({ frames := 5, cells := 0, slots := 0, locals := 112 }) D cI cT [.ref (ad 120), .int (zI (p)), .int (zI (q))] (fun U H => (zW D ad 20 (sC cI ad σ) H ∧ cY D cI ad tl tx rd rp H) ∧ zT bs U H) (fun r => r = zI (qWas g p q)) := by
  refine Met.ofW (cc := cX7_washable) (maxL := 3) (ret := (some .int)) (by decide) rfl ?_
  intro p_ e_ s m_ args below meth c_ s₁ B hml hv
  obtain ⟨rfl, hK, hF⟩ := hv
  have hx := B.exec
  have hb := B.bytes
  have hr := B.returns
  have hts := atoms_spec (ws := wsX7_washable) B.pre
  have hown : s.vm.findClass RX7 = some m_.cls := findClass_of_methodNamed B.named
  have hlocks := B.notSynchronized
  have S : CallFix p_ m_ c_ cX7_washable 3 s _ wsX7_washable RX7 := ⟨hx, hb, hml, hown, hts⟩
  have i_X7 : ∀ w ∈ u_ws RX7 TX7 4, w ∈ wsX7_washable := fun _ h => List.mem_cons_of_mem _ (List.mem_append_left _ (List.mem_append_left _ (List.mem_append_left _ (List.mem_append_right _ h))))
  obtain ⟨⟨hP, hY⟩, hT⟩ := hF
  have hl := lv_entry ([.ref (ad 120), .int (zI (p)), .int (zI (q))]) (n := 3) (Nat.le_of_ble_eq_true rfl)
  rw [lg_entry_eq]
  generalize (lg_sl ([.ref (ad 120), .int (zI (p)), .int (zI (q))]) ++ List.replicate (3 - (lg_sl ([.ref (ad 120), .int (zI (p)), .int (zI (q))])).length) Slot.unset).toArray = ls at hl ⊢
  have hl : lv_has ls 3 [(0, .ref (ad 120)), (1, .int (zI (p))), (2, .int (zI (q)))] := hl
  refine lv_iload_n (pc := 0) hx hb dX7_washable_0 rfl (lv_at hl 1 rfl) ?_
  refine zr_si (pc := 1) (As := [.int (zI (p))]) (rest := []) S (ct_X7_isProgram l D cI cT p (by omega)) (va_cwS 1 hts gX7_washable_X7_isProgram rfl rfl rfl (by decide +kernel) ⟨Nat.le_of_ble_eq_true rfl, Nat.le_of_ble_eq_true rfl⟩) zs0 hK trivial rfl hl.1 rfl (Nat.le_of_ble_eq_true rfl) dX7_washable_1 ⟨Nat.le_of_ble_eq_true rfl, Nat.le_of_ble_eq_true rfl⟩ (fun r_1 hr_1 => ?_)
  rcases hr_1 with ⟨hb_1, rfl⟩ | ⟨hb_1, rfl⟩
  · refine zr_if_eq (pc := 4) (tgt := 16) hx hb dX7_washable_4 (by decide) (by decide) (fun z => absurd z (by decide)) (fun _ => ?_)
    refine lv_iload_n (pc := 7) hx hb dX7_washable_7 rfl (lv_at hl 2 rfl) ?_
    refine lv_iconst (pc := 8) (v := zI 0) hx hb dX7_washable_8 rfl ?_
    refine lv_iconst (pc := 9) (v := zI 1) hx hb dX7_washable_9 rfl ?_
    refine zr_si (pc := 10) (As := [.int (zI (q)), .int (zI (0)), .int (zI (1))]) (rest := []) S (ct_X7_isWithin l D cI cT q 0 1 (by omega) (by decide) (by decide)) (va_cwS 3 hts gX7_washable_X7_isWithin rfl rfl rfl (by decide +kernel) ⟨Nat.le_of_ble_eq_true rfl, Nat.le_of_ble_eq_true rfl⟩) zs0 hK trivial rfl hl.1 rfl (Nat.le_of_ble_eq_true rfl) dX7_washable_10 ⟨Nat.le_of_ble_eq_true rfl, Nat.le_of_ble_eq_true rfl⟩ (fun r_10 hr_10 => ?_)
    rcases hr_10 with ⟨hb_10, rfl⟩ | ⟨hb_10, rfl⟩
    · refine zr_if_ne (pc := 13) (tgt := 20) hx hb dX7_washable_13 (by decide) (by decide) (fun _ => ?_) (fun z => absurd z (by decide))
      refine lv_aload_n (pc := 20) hx hb dX7_washable_20 rfl (lv_at hl 0 rfl) ?_
      refine zr_get (pc := 21) S hK hY.1 rfl i_X7 0 (by decide) (List.mem_of_getElem? (i := 1) rfl) rfl dX7_washable_21 ?_
      refine lv_iload_n (pc := 24) hx hb dX7_washable_24 rfl (lv_at hl 1 rfl) ?_
      refine lv_iload_n (pc := 25) hx hb dX7_washable_25 rfl (lv_at hl 2 rfl) ?_
      refine zr_vi (pc := 26) (As := [.int (zI (p)), .int (zI (q))]) (rest := []) S (ct_X4_dirtySet l D cI cT bs ad σ g hR hI p q (by omega) (by omega) (by omega) (by omega)) (cwV 2 hts gX7_washable_X4_dirtySet rfl rfl rfl (by decide +kernel) ⟨Nat.le_of_ble_eq_true rfl, Nat.le_of_ble_eq_true rfl⟩) zs_T hK ⟨hP, hT⟩ (zr_recv hK (hP 0 (by decide)) rfl) rfl hl.1 rfl (Nat.le_of_ble_eq_true rfl) dX7_washable_26 ⟨Nat.le_of_ble_eq_true rfl, Nat.le_of_ble_eq_true rfl⟩ (fun r_26 hr_26 => ?_)
      subst hr_26
      exact W.iret (v := zI (dset g p q (g 0).toNat)) hx hb hr (fun tz ht hW => ⟨_, rfl, congrArg zI (Eq.symm (tft (by omega))), ht⟩) (fun _ h => by cases h) dX7_washable_29
    · refine zr_if_ne (pc := 13) (tgt := 20) hx hb dX7_washable_13 (by decide) (by decide) (fun z => absurd z (by decide)) (fun _ => ?_)
      refine lv_sipush (pc := 16) (v := zI (-2001)) hx hb dX7_washable_16 zc_sipush_m2001 ?_
      exact W.iret (v := zI ((-2001))) hx hb hr (fun tz ht hW => ⟨_, rfl, congrArg zI (Eq.symm (tff (fun z => by omega))), ht⟩) (fun _ h => by cases h) dX7_washable_19
  · refine zr_if_eq (pc := 4) (tgt := 16) hx hb dX7_washable_4 (by decide) (by decide) (fun _ => ?_) (fun z => absurd z (by decide))
    refine lv_sipush (pc := 16) (v := zI (-2001)) hx hb dX7_washable_16 zc_sipush_m2001 ?_
    exact W.iret (v := zI ((-2001))) hx hb hr (fun tz ht hW => ⟨_, rfl, congrArg zI (Eq.symm (tff (fun z => by omega))), ht⟩) (fun _ h => by cases h) dX7_washable_19
set_option maxHeartbeats 4000000 in
set_option maxRecDepth 100000 in
theorem ct_X7_wash (l : Launch) (D : va_G) (cI cT : ClassId) (sz : Nat) (ad : Nat → Nat) (σ : Nat → Int → Int) (g : Int → Int) (hR : Rel σ g) (hI : Inv g) (σs : Nat → Nat → Int → Int) (n m : Nat) (hs : Nat → Int → Int) (tl : Int) (tx rd rp : Int → Int) (hn : n ≤ 5) (hm : m < 5) (hC : cH σs n m hs) (hJ7 : zJ ad 127) (p : Int) (ld : Int) (r_p : -2147483648 ≤ p ∧ p ≤ 2147483647) (r_ld : -2147483648 ≤ ld ∧ ld ≤ 2147483647) (bs : Nat) (hB : ∀ k : Nat, k < 127 → bs ≤ ad k) : zMi l yX7_wash wsX7_wash ({ frames := 5, cells := 0, slots := 0, locals := 115 }) D cI cT [.ref (ad 120), .int (zI (p)), .int (zI (ld))] sz (fun U H => (zW D ad 20 (sC cI ad σ) H ∧ hO1 D ad (n : Int) (m : Int) H ∧ hO2 D cT ad H ∧ hQs D cI ad σs H ∧ cY D cI ad tl tx rd rp H) ∧ zT bs U H) (fun rr H => ∃ (σ' : Nat → Int → Int) (σs' : Nat → Nat → Int → Int) (g' : Int → Int) (n' m' : Nat) (hs' : Nat → Int → Int), (Rel σ' g' ∧ cH σs' n' m' hs' ∧ n' ≤ 5 ∧ m' < 5) ∧ oR (eWash g p ld) (sm (fun k => less g ld (tbD p) k) (g 0).toNat) (zu (clnG g ld (tbD p) (g 0).toNat) 6 (g 6 + tbC p)) g n hs g' n' hs' rr ∧ zW D ad 20 (sC cI ad σ') H ∧ hO1 D ad (n' : Int) (m' : Int) H ∧ hO2 D cT ad H ∧ hQs D cI ad σs' H ∧ cY D cI ad tl tx rd rp H) (zR ad 127 sz) := by
  refine Met.ofW (cc := cX7_wash) (maxL := 3) (ret := (some .int)) (by decide) rfl ?_
  intro p_ e_ s m_ args below meth c_ s₁ B hml hv
  obtain ⟨rfl, hsz, hK, hF⟩ := hv
  have hx := B.exec
  have hb := B.bytes
  have hr := B.returns
  have hts := atoms_spec (ws := wsX7_wash) B.pre
  have hown : s.vm.findClass RX7 = some m_.cls := findClass_of_methodNamed B.named
  have hlocks := B.notSynchronized
  have S : CallFix p_ m_ c_ cX7_wash 3 s _ wsX7_wash RX7 := ⟨hx, hb, hml, hown, hts⟩
  have i_X7 : ∀ w ∈ u_ws RX7 TX7 4, w ∈ wsX7_wash := fun _ h => List.mem_cons_of_mem _ (List.mem_append_left _ (List.mem_append_left _ (List.mem_append_left _ (List.mem_append_left _ (List.mem_append_left _ (List.mem_append_right _ h))))))
  have i_X4 : ∀ w ∈ u_ws RX4 TX4 9, w ∈ wsX7_wash := fun _ h => List.mem_cons_of_mem _ (List.mem_append_left _ (List.mem_append_left _ (List.mem_append_left _ (List.mem_append_left _ (List.mem_append_right _ h)))))
  subst hsz
  generalize hAe : (zR ad 127 s.heap.size) = A
  have hAn : ∀ q : Nat, s.heap.size ≤ q → A q := fun q h => by rw [← hAe]; exact Or.inr h
  obtain ⟨H, hHe⟩ : ∃ H : Heap, H = s.heap := ⟨_, rfl⟩
  rw [← hHe] at hF ⊢
  have hS : va_S A s.heap H [] := by rw [hHe]; exact va_S.rf
  obtain ⟨⟨hP, hH1, hH2, hQ, hY⟩, hT⟩ := hF
  have hA7 : ∀ k : Nat, k < 127 → A (ad k) := fun k hk => by rw [← hAe]; exact Or.inl ⟨k, hk, rfl⟩
  have hAin : ∀ k : Nat, k < 20 → A (ad k) := fun k hk => hA7 k (by omega)
  have hJ : zJ ad 20 := zJ_le hJ7 (by decide)
  have hnC := iv_nC hI
  have hpw := pw16 (n := g 0) (by omega) (by omega)
  have htd := tbD_9 p
  have hl := lv_entry ([.ref (ad 120), .int (zI (p)), .int (zI (ld))]) (n := 3) (Nat.le_of_ble_eq_true rfl)
  rw [lg_entry_eq]
  generalize (lg_sl ([.ref (ad 120), .int (zI (p)), .int (zI (ld))]) ++ List.replicate (3 - (lg_sl ([.ref (ad 120), .int (zI (p)), .int (zI (ld))])).length) Slot.unset).toArray = ls at hl ⊢
  have hl : lv_has ls 3 [(0, .ref (ad 120)), (1, .int (zI (p))), (2, .int (zI (ld)))] := hl
  refine lv_iload_n (pc := 0) hx hb dX7_wash_0 rfl (lv_at hl 1 rfl) ?_
  refine zr_si (pc := 1) (As := [.int (zI (p))]) (rest := []) S (ct_X7_isProgram l D cI cT p (by omega)) (va_cwS 1 hts gX7_wash_X7_isProgram rfl rfl rfl (by decide +kernel) ⟨Nat.le_of_ble_eq_true rfl, Nat.le_of_ble_eq_true rfl⟩) zs0 hK trivial rfl hl.1 rfl (Nat.le_of_ble_eq_true rfl) dX7_wash_1 ⟨Nat.le_of_ble_eq_true rfl, Nat.le_of_ble_eq_true rfl⟩ (fun r_1 hr_1 => ?_)
  rcases hr_1 with ⟨hb_1, rfl⟩ | ⟨hb_1, rfl⟩
  · refine zr_if_eq (pc := 4) (tgt := 19) hx hb dX7_wash_4 (by decide) (by decide) (fun z => absurd z (by decide)) (fun _ => ?_)
    refine lv_iload_n (pc := 7) hx hb dX7_wash_7 rfl (lv_at hl 2 rfl) ?_
    refine zr_if_eq (pc := 8) (tgt := 19) hx hb dX7_wash_8 (by decide) (by omega) (fun c_8 => ?_) (fun c_8 => ?_)
    · refine lv_sipush (pc := 19) (v := zI (-2001)) hx hb dX7_wash_19 zc_sipush_m2001 ?_
      exact W.iret (v := zI ((-2001))) hx hb hr (fun tz ht hW => ⟨⟨zI ((-2001)), zI ((-2001)), rfl, rfl, by dsimp only; rw [ht]; exact ⟨_, _, _, _, _, _, ⟨hR, hC, hn, hm⟩, oR_no (tff (fun q => by omega)) (by decide), hP, hH1, hH2, hQ, hY⟩⟩, hS.F ht⟩) hS.2.2 dX7_wash_22
    · refine lv_aload_n (pc := 11) hx hb dX7_wash_11 rfl (lv_at hl 0 rfl) ?_
      refine lv_iload_n (pc := 12) hx hb dX7_wash_12 rfl (lv_at hl 2 rfl) ?_
      refine zr_vi (pc := 13) (As := [.int (zI (ld))]) (rest := []) S (ct_X7_isSetOfCostumes l D cI cT ad σ g hR hI tl tx rd rp ld (by omega)) (cwV 1 hts gX7_wash_X7_isSetOfCostumes rfl rfl rfl (by decide +kernel) ⟨Nat.le_of_ble_eq_true rfl, Nat.le_of_ble_eq_true rfl⟩) zs0 hK ⟨hP, hY⟩ (zr_recv hK hY.1 rfl) rfl hl.1 rfl (Nat.le_of_ble_eq_true rfl) dX7_wash_13 ⟨Nat.le_of_ble_eq_true rfl, Nat.le_of_ble_eq_true rfl⟩ (fun r_13 hr_13 => ?_)
      rcases hr_13 with ⟨hb_13, rfl⟩ | ⟨hb_13, rfl⟩
      · refine zr_if_ne (pc := 16) (tgt := 23) hx hb dX7_wash_16 (by decide) (by decide) (fun _ => ?_) (fun z => absurd z (by decide))
        refine lv_aload_n (pc := 23) hx hb dX7_wash_23 rfl (lv_at hl 0 rfl) ?_
        refine zr_get (pc := 24) S hK hY.1 rfl i_X7 0 (by decide) (List.mem_of_getElem? (i := 1) rfl) rfl dX7_wash_24 ?_
        refine lv_iload_n (pc := 27) hx hb dX7_wash_27 rfl (lv_at hl 1 rfl) ?_
        refine lv_iload_n (pc := 28) hx hb dX7_wash_28 rfl (lv_at hl 2 rfl) ?_
        refine zr_vi (pc := 29) (As := [.int (zI (p)), .int (zI (ld))]) (rest := []) S (ct_X4_allowsLoad l D cI cT bs ad σ g hR hI p ld (by omega) (by omega) (by omega) (by omega)) (cwV 2 hts gX7_wash_X4_allowsLoad rfl rfl rfl (by decide +kernel) ⟨Nat.le_of_ble_eq_true rfl, Nat.le_of_ble_eq_true rfl⟩) zs_T hK ⟨hP, hT⟩ (zr_recv hK (hP 0 (by decide)) rfl) rfl hl.1 rfl (Nat.le_of_ble_eq_true rfl) dX7_wash_29 ⟨Nat.le_of_ble_eq_true rfl, Nat.le_of_ble_eq_true rfl⟩ (fun r_29 hr_29 => ?_)
        rcases hr_29 with ⟨hb_29, rfl⟩ | ⟨hb_29, rfl⟩
        · refine zr_if_ne (pc := 32) (tgt := 39) hx hb dX7_wash_32 (by decide) (by decide) (fun _ => ?_) (fun z => absurd z (by decide))
          refine lv_aload_n (pc := 39) hx hb dX7_wash_39 rfl (lv_at hl 0 rfl) ?_
          refine zr_get (pc := 40) S hK hY.1 rfl i_X7 1 (by decide) (List.mem_of_getElem? (i := 2) rfl) rfl dX7_wash_40 ?_
          refine lv_aload_n (pc := 43) hx hb dX7_wash_43 rfl (lv_at hl 0 rfl) ?_
          refine zr_get (pc := 44) S hK hY.1 rfl i_X7 0 (by decide) (List.mem_of_getElem? (i := 1) rfl) rfl dX7_wash_44 ?_
          refine zr_vwv (pc := 47) (As := [.ref (ad 0)]) (rest := []) S (ct_X2_remember l D cI cT H.size ad σ σs n m hn hm hJ7) (cwV 1 hts gX7_wash_X2_remember rfl rfl rfl (by decide +kernel) ⟨Nat.le_of_ble_eq_true rfl, Nat.le_of_ble_eq_true rfl⟩) zs0 hK ⟨hP, hH1, hH2, hQ⟩ (zr_recv hK hH1 rfl) hS (fun q h => h.elim (fun z => z.elim (fun e => by rw [e]; exact hA7 125 (by decide)) (fun ⟨j, k, hj, hk, e⟩ => by rw [e]; exact hA7 _ (by omega))) (fun z => hAn q (Nat.le_trans hS.1 z))) rfl hl.1 rfl (Nat.le_of_ble_eq_true rfl) dX7_wash_47 ⟨Nat.le_of_ble_eq_true rfl, Nat.le_of_ble_eq_true rfl⟩ (fun H locs hG hz hk hS => ?_)
          obtain ⟨hH1, hH2, hQ⟩ := hG
          have hT := zT_after hT hk (fun q h z => z.elim (fun z => z.elim (fun e => by rw [e]; exact hB 125 (by decide)) (fun ⟨j, k, hj, hk2, e⟩ => by rw [e]; exact hB _ (by omega))) (fun y => absurd h (Nat.not_lt.mpr y)))
          have hP := hP.keep hk (fun k k0 z => z.elim (fun z => z.elim (fun e => absurd (hJ7 k 125 (by omega) (by decide) e) (by omega)) (fun ⟨j, i, hj, hi, e⟩ => hd_ne hJ7 hj hi (by omega) (by omega) e.symm)) (fun y => absurd (hP.lt k0) (Nat.not_lt.mpr y)))
          have hY := hY.keep hk (fun k k0 k1 hlt z => z.elim (fun z => z.elim (fun e => absurd (hJ7 k 125 (by omega) (by decide) e) (by omega)) (fun ⟨j, i, hj, hi, e⟩ => hd_ne hJ7 hj hi (by omega) (by omega) e.symm)) (fun y => absurd hlt (Nat.not_lt.mpr y)))
          have hC := cH_push hC hn hm (rel_cp (σ := σs m) hR)
          rw [hpN_i n hn, nx_i m hm] at hH1
          refine lv_aload_n (pc := 50) hx hb dX7_wash_50 rfl (lv_at hl 0 rfl) ?_
          refine zr_get (pc := 51) S hK hY.1 rfl i_X7 0 (by decide) (List.mem_of_getElem? (i := 1) rfl) rfl dX7_wash_51 ?_
          refine lv_dup (pc := 54) hx hb dX7_wash_54 rfl ?_
          refine zr_get (pc := 55) S hK (hP 0 (by decide)) rfl i_X4 7 (by decide) (List.mem_of_getElem? (i := 3) rfl) rfl dX7_wash_55 ?_
          refine zr_top (b := g 6) (rl_ws hR) ?_
          obtain ⟨⟨tP, hZ_tP, _, hA_tP⟩, ⟨tD, hZ_tD, _, hA_tD⟩, ⟨tC, hZ_tC, _, hA_tC⟩⟩ := id hT
          refine zr_gets (pc := 58) S hZ_tC (List.mem_of_getElem? (i := 4) rfl) dX7_wash_58 ?_
          refine lv_iload_n (pc := 61) hx hb dX7_wash_61 rfl (lv_at hl 1 rfl) ?_
          refine zr_si (pc := 62) (As := [.ref (tC), .int (zI (p))]) (rest := [.int (zI (g 6)), .ref (ad 0)]) S (ct_X7_at l D cI cT (tC) 4 _ p (tbC p) (by decide) (by omega) (by omega) (rfl) (by omega)) (va_cwS 2 hts gX7_wash_X7_at rfl rfl rfl (by decide +kernel) ⟨Nat.le_of_ble_eq_true rfl, Nat.le_of_ble_eq_true rfl⟩) zs_ar hK hA_tC rfl hl.1 rfl (Nat.le_of_ble_eq_true rfl) dX7_wash_62 ⟨Nat.le_of_ble_eq_true rfl, Nat.le_of_ble_eq_true rfl⟩ (fun r_62 hr_62 => ?_)
          subst hr_62
          refine zr_iadd (pc := 65) (d := (g 6) + (tbC p)) hx hb dX7_wash_65 rfl ?_
          refine zr_put (pc := 66) S hK (hP 0 (by decide)) rfl i_X4 tyX4 tyX4_ok nmX4 7 (by decide) (List.mem_of_getElem? (i := 3) rfl) rfl rfl rfl (Nat.le_of_ble_eq_true rfl) hS (hAin 0 (by decide)) dX7_wash_66 (fun H locs hO hz hk hS => ?_)
          have hkk := fun (q : Nat) (h : _) (z : q ≠ ad 0) => hk q h z
          have hH1 := hH1.kept (hkk _ hH1.lt (fun e => absurd (hJ7 125 0 (by decide) (by decide) e) (by decide)))
          have hH2 := hH2.kept (hkk _ hH2.lt (fun e => absurd (hJ7 126 0 (by decide) (by decide) e) (by decide)))
          have hQ : hQs D cI ad _ H := fun j hj => (hQ j hj).keep (A1 := fun q => q = ad 0) (fun q h z => hkk q h z) (fun k k0 e => hd_ne hJ7 hj k0 (by decide) (by omega) e)
          have hY := hY.keep (A := fun q => q = ad 0) (fun q h z => hkk q h z) (fun k k0 k1 _ e => absurd (hJ7 k 0 (by omega) (by decide) e) (by omega))
          have hT := hT.kept (fun q h1 h2 => hkk q h1 (fun e => absurd (hB 0 (by decide)) (by omega)))
          have hP := zW.put hP hJ 0 (by decide) hO hk (sC_0_3 ((g 6) + (tbC p)))
          refine lv_aload_n (pc := 69) hx hb dX7_wash_69 rfl (lv_at hl 0 rfl) ?_
          refine zr_get (pc := 70) S hK hY.1 rfl i_X7 0 (by decide) (List.mem_of_getElem? (i := 1) rfl) rfl dX7_wash_70 ?_
          refine zr_get (pc := 73) S hK (hP 0 (by decide)) rfl i_X4 0 (by decide) (List.mem_of_getElem? (i := 5) rfl) rfl dX7_wash_73 ?_
          refine lv_iload_n (pc := 76) hx hb dX7_wash_76 rfl (lv_at hl 2 rfl) ?_
          obtain ⟨⟨tP, hZ_tP, _, hA_tP⟩, ⟨tD, hZ_tD, _, hA_tD⟩, ⟨tC, hZ_tC, _, hA_tC⟩⟩ := id hT
          refine zr_gets (pc := 77) S hZ_tD (List.mem_of_getElem? (i := 6) rfl) dX7_wash_77 ?_
          refine lv_iload_n (pc := 80) hx hb dX7_wash_80 rfl (lv_at hl 1 rfl) ?_
          refine zr_si (pc := 81) (As := [.ref (tD), .int (zI (p))]) (rest := [.int (zI (ld)), .ref (ad 1)]) S (ct_X7_at l D cI cT (tD) 4 _ p (tbD p) (by decide) (by omega) (by omega) (rfl) (by omega)) (va_cwS 2 hts gX7_wash_X7_at rfl rfl rfl (by decide +kernel) ⟨Nat.le_of_ble_eq_true rfl, Nat.le_of_ble_eq_true rfl⟩) zs_ar hK hA_tD rfl hl.1 rfl (Nat.le_of_ble_eq_true rfl) dX7_wash_81 ⟨Nat.le_of_ble_eq_true rfl, Nat.le_of_ble_eq_true rfl⟩ (fun r_81 hr_81 => ?_)
          subst hr_81
          skip
          refine zr_vwi (pc := 84) (As := [.int (zI (ld)), .int (zI (tbD p))]) (rest := []) S (ct_X6_clean l D cI cT H.size ad (su σ 0 3 (g 6 + tbC p)) (zu g 6 (g 6 + tbC p)) (rel_ws hR hI) (inv_6 hI) hJ ld (tbD p) (by omega) (by omega) (by omega) (by omega)) (cwV 2 hts gX7_wash_X6_clean rfl rfl rfl (by decide +kernel) ⟨Nat.le_of_ble_eq_true rfl, Nat.le_of_ble_eq_true rfl⟩) zs0 hK hP (zr_recv hK (hP 1 (by decide)) rfl) hS (fun q h => h.elim (fun ⟨k, k0, e⟩ => by rw [e]; exact hAin k k0) (fun z => hAn q (Nat.le_trans hS.1 z))) rfl hl.1 rfl (Nat.le_of_ble_eq_true rfl) dX7_wash_84 ⟨Nat.le_of_ble_eq_true rfl, Nat.le_of_ble_eq_true rfl⟩ (fun r_84 H locs hG hz hk hS => ?_)
          have hH1 := hH1.kept (hk _ hH1.lt (fun z => z.elim (fun ⟨i, i0, e⟩ => absurd (hJ7 125 i (by decide) (by omega) e) (by omega)) (fun y => absurd hH1.lt (Nat.not_lt.mpr y))))
          have hH2 := hH2.kept (hk _ hH2.lt (fun z => z.elim (fun ⟨i, i0, e⟩ => absurd (hJ7 126 i (by decide) (by omega) e) (by omega)) (fun y => absurd hH2.lt (Nat.not_lt.mpr y))))
          have hQ : hQs D cI ad _ H := fun j hj => (hQ j hj).keep hk (fun k k0 z => z.elim (fun ⟨i, i0, e⟩ => hd_ne hJ7 hj k0 (by omega) (by omega) e) (fun y => absurd ((hQ j hj).lt k0) (Nat.not_lt.mpr y)))
          have hY := hY.keep hk (fun k k0 k1 hlt z => z.elim (fun ⟨i, i0, e⟩ => absurd (hJ7 k i (by omega) (by omega) e) (by omega)) (fun y => absurd hlt (Nat.not_lt.mpr y)))
          obtain ⟨rfl, σ27, hR27, hP⟩ := hG
          exact W.iret (v := zI (sm (fun k => less (zu g 6 (g 6 + tbC p)) ld (tbD p) k) ((zu g 6 (g 6 + tbC p)) 0).toNat)) hx hb hr (fun tz ht hW => ⟨⟨zI (sm (fun k => less (zu g 6 (g 6 + tbC p)) ld (tbD p) k) ((zu g 6 (g 6 + tbC p)) 0).toNat), zI (sm (fun k => less (zu g 6 (g 6 + tbC p)) ld (tbD p) k) ((zu g 6 (g 6 + tbC p)) 0).toNat), rfl, rfl, by dsimp only; rw [ht]; exact ⟨_, _, _, _, _, _, ⟨hR27, hC, hpN_le n, Nat.mod_lt _ (by decide)⟩, oR_ok ((tft (by omega)).trans (tft hb_29)) (by rw [less_6, zu_n (by decide)]) (by rw [clnG_6, zu_n (by decide)]), hP, hH1, hH2, hQ, hY⟩⟩, hS.F ht⟩) hS.2.2 dX7_wash_87
        · refine zr_if_ne (pc := 32) (tgt := 39) hx hb dX7_wash_32 (by decide) (by decide) (fun z => absurd z (by decide)) (fun _ => ?_)
          refine lv_sipush (pc := 35) (v := zI (-2002)) hx hb dX7_wash_35 zc_sipush_m2002 ?_
          exact W.iret (v := zI ((-2002))) hx hb hr (fun tz ht hW => ⟨⟨zI ((-2002)), zI ((-2002)), rfl, rfl, by dsimp only; rw [ht]; exact ⟨_, _, _, _, _, _, ⟨hR, hC, hn, hm⟩, oR_no ((tft (by omega)).trans (tff (fun q => hb_29 q))) (by decide), hP, hH1, hH2, hQ, hY⟩⟩, hS.F ht⟩) hS.2.2 dX7_wash_38
      · refine zr_if_ne (pc := 16) (tgt := 23) hx hb dX7_wash_16 (by decide) (by decide) (fun z => absurd z (by decide)) (fun _ => ?_)
        refine lv_sipush (pc := 19) (v := zI (-2001)) hx hb dX7_wash_19 zc_sipush_m2001 ?_
        exact W.iret (v := zI ((-2001))) hx hb hr (fun tz ht hW => ⟨⟨zI ((-2001)), zI ((-2001)), rfl, rfl, by dsimp only; rw [ht]; exact ⟨_, _, _, _, _, _, ⟨hR, hC, hn, hm⟩, oR_no (tff (fun q => by omega)) (by decide), hP, hH1, hH2, hQ, hY⟩⟩, hS.F ht⟩) hS.2.2 dX7_wash_22
  · refine zr_if_eq (pc := 4) (tgt := 19) hx hb dX7_wash_4 (by decide) (by decide) (fun _ => ?_) (fun z => absurd z (by decide))
    refine lv_sipush (pc := 19) (v := zI (-2001)) hx hb dX7_wash_19 zc_sipush_m2001 ?_
    exact W.iret (v := zI ((-2001))) hx hb hr (fun tz ht hW => ⟨⟨zI ((-2001)), zI ((-2001)), rfl, rfl, by dsimp only; rw [ht]; exact ⟨_, _, _, _, _, _, ⟨hR, hC, hn, hm⟩, oR_no (tff (fun q => by omega)) (by decide), hP, hH1, hH2, hQ, hY⟩⟩, hS.F ht⟩) hS.2.2 dX7_wash_22
