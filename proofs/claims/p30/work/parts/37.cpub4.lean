set_option maxHeartbeats 4000000 in
set_option maxRecDepth 100000 in
theorem ct_X7_endHire (l : Launch) (D : va_G) (cI cT : ClassId) (sz : Nat) (ad : Nat → Nat) (σ : Nat → Int → Int) (g : Int → Int) (hR : Rel σ g) (hI : Inv g) (σs : Nat → Nat → Int → Int) (n m : Nat) (hs : Nat → Int → Int) (tl : Int) (tx rd rp : Int → Int) (hn : n ≤ 5) (hm : m < 5) (hC : cH σs n m hs) (hJ7 : zJ ad 127) (h : Int) (r_h : -2147483648 ≤ h ∧ h ≤ 2147483647) : zMi l yX7_endHire wsX7_endHire ({ frames := 5, cells := 0, slots := 0, locals := 115 }) D cI cT [.ref (ad 120), .int (zI (h))] sz (fun _ H => zW D ad 20 (sC cI ad σ) H ∧ hO1 D ad (n : Int) (m : Int) H ∧ hO2 D cT ad H ∧ hQs D cI ad σs H ∧ cY D cI ad tl tx rd rp H) (fun rr H => ∃ (σ' : Nat → Int → Int) (σs' : Nat → Nat → Int → Int) (g' : Int → Int) (n' m' : Nat) (hs' : Nat → Int → Int), (Rel σ' g' ∧ cH σs' n' m' hs' ∧ n' ≤ 5 ∧ m' < 5) ∧ oR (eEnd g h) (bkF g h) (zu (zu (zu g (452 + 5 * h + 2) (g 3 - gH g h 1 + 1)) (452 + 5 * h + 3) (gH g h 3 - bkF g h)) 5 (g 5 - bkF g h)) g n hs g' n' hs' rr ∧ zW D ad 20 (sC cI ad σ') H ∧ hO1 D ad (n' : Int) (m' : Int) H ∧ hO2 D cT ad H ∧ hQs D cI ad σs' H ∧ cY D cI ad tl tx rd rp H) (zR ad 127 sz) := by
  refine Met.ofW (cc := cX7_endHire) (maxL := 3) (ret := (some .int)) (by decide) rfl ?_
  intro p_ e_ s m_ args below meth c_ s₁ B hml hv
  obtain ⟨rfl, hsz, hK, hF⟩ := hv
  have hx := B.exec
  have hb := B.bytes
  have hr := B.returns
  have hts := atoms_spec (ws := wsX7_endHire) B.pre
  have hown : s.vm.findClass RX7 = some m_.cls := findClass_of_methodNamed B.named
  have hlocks := B.notSynchronized
  have S : CallFix p_ m_ c_ cX7_endHire 3 s _ wsX7_endHire RX7 := ⟨hx, hb, hml, hown, hts⟩
  have i_X7 : ∀ w ∈ u_ws RX7 TX7 4, w ∈ wsX7_endHire := fun _ h => List.mem_cons_of_mem _ (List.mem_append_left _ (List.mem_append_left _ (List.mem_append_left _ (List.mem_append_left _ (List.mem_append_left _ (List.mem_append_right _ h))))))
  have i_X4 : ∀ w ∈ u_ws RX4 TX4 9, w ∈ wsX7_endHire := fun _ h => List.mem_cons_of_mem _ (List.mem_append_left _ (List.mem_append_left _ (List.mem_append_left _ (List.mem_append_left _ (List.mem_append_right _ h)))))
  subst hsz
  generalize hAe : (zR ad 127 s.heap.size) = A
  have hAn : ∀ q : Nat, s.heap.size ≤ q → A q := fun q h => by rw [← hAe]; exact Or.inr h
  obtain ⟨H, hHe⟩ : ∃ H : Heap, H = s.heap := ⟨_, rfl⟩
  rw [← hHe] at hF ⊢
  have hS : va_S A s.heap H [] := by rw [hHe]; exact va_S.rf
  obtain ⟨hP, hH1, hH2, hQ, hY⟩ := hF
  have hA7 : ∀ k : Nat, k < 127 → A (ad k) := fun k hk => by rw [← hAe]; exact Or.inl ⟨k, hk, rfl⟩
  have hAin : ∀ k : Nat, k < 20 → A (ad k) := fun k hk => hA7 k (by omega)
  have hJ : zJ ad 20 := zJ_le hJ7 (by decide)
  have hnH := iv_nH hI
  have hto := iv_to hI
  have hl := lv_entry ([.ref (ad 120), .int (zI (h))]) (n := 3) (Nat.le_of_ble_eq_true rfl)
  rw [lg_entry_eq]
  generalize (lg_sl ([.ref (ad 120), .int (zI (h))]) ++ List.replicate (3 - (lg_sl ([.ref (ad 120), .int (zI (h))])).length) Slot.unset).toArray = ls at hl ⊢
  have hl : lv_has ls 3 [(0, .ref (ad 120)), (1, .int (zI (h)))] := hl
  refine lv_aload_n (pc := 0) hx hb dX7_endHire_0 rfl (lv_at hl 0 rfl) ?_
  refine zr_get (pc := 1) S hK hY.1 rfl i_X7 0 (by decide) (List.mem_of_getElem? (i := 1) rfl) rfl dX7_endHire_1 ?_
  refine zr_get (pc := 4) S hK (hP 0 (by decide)) rfl i_X4 2 (by decide) (List.mem_of_getElem? (i := 2) rfl) rfl dX7_endHire_4 ?_
  refine lv_iload_n (pc := 7) hx hb dX7_endHire_7 rfl (lv_at hl 1 rfl) ?_
  refine zr_vi (pc := 8) (As := [.int (zI (h))]) (rest := []) S (ct_X1_has l D cI cT ad σ g hR hI h (by omega)) (cwV 1 hts gX7_endHire_X1_has rfl rfl rfl (by decide +kernel) ⟨Nat.le_of_ble_eq_true rfl, Nat.le_of_ble_eq_true rfl⟩) zs0 hK hP (zr_recv hK (hP 3 (by decide)) rfl) rfl hl.1 rfl (Nat.le_of_ble_eq_true rfl) dX7_endHire_8 ⟨Nat.le_of_ble_eq_true rfl, Nat.le_of_ble_eq_true rfl⟩ (fun r_8 hr_8 => ?_)
  rcases hr_8 with ⟨hb_8, rfl⟩ | ⟨hb_8, rfl⟩
  · refine zr_if_ne (pc := 11) (tgt := 18) hx hb dX7_endHire_11 (by decide) (by decide) (fun _ => ?_) (fun z => absurd z (by decide))
    have hh := iv_hi hI (h := h) (by omega) (by omega)
    refine lv_aload_n (pc := 18) hx hb dX7_endHire_18 rfl (lv_at hl 0 rfl) ?_
    refine zr_get (pc := 19) S hK hY.1 rfl i_X7 0 (by decide) (List.mem_of_getElem? (i := 1) rfl) rfl dX7_endHire_19 ?_
    refine zr_get (pc := 22) S hK (hP 0 (by decide)) rfl i_X4 2 (by decide) (List.mem_of_getElem? (i := 2) rfl) rfl dX7_endHire_22 ?_
    refine lv_iload_n (pc := 25) hx hb dX7_endHire_25 rfl (lv_at hl 1 rfl) ?_
    refine lv_aload_n (pc := 26) hx hb dX7_endHire_26 rfl (lv_at hl 0 rfl) ?_
    refine zr_get (pc := 27) S hK hY.1 rfl i_X7 0 (by decide) (List.mem_of_getElem? (i := 1) rfl) rfl dX7_endHire_27 ?_
    refine zr_get (pc := 30) S hK (hP 0 (by decide)) rfl i_X4 4 (by decide) (List.mem_of_getElem? (i := 3) rfl) rfl dX7_endHire_30 ?_
    refine zr_top (b := g 3) (rl_to hR) ?_
    refine zr_vi (pc := 33) (As := [.int (zI (h)), .int (zI (g 3))]) (rest := []) S (ct_X1_canEnd l D cI cT ad σ g hR hI h (g 3) (by omega) (by omega) (by omega) (by omega)) (cwV 2 hts gX7_endHire_X1_canEnd rfl rfl rfl (by decide +kernel) ⟨Nat.le_of_ble_eq_true rfl, Nat.le_of_ble_eq_true rfl⟩) zs0 hK hP (zr_recv hK (hP 3 (by decide)) rfl) rfl hl.1 rfl (Nat.le_of_ble_eq_true rfl) dX7_endHire_33 ⟨Nat.le_of_ble_eq_true rfl, Nat.le_of_ble_eq_true rfl⟩ (fun r_33 hr_33 => ?_)
    rcases hr_33 with ⟨hb_33, rfl⟩ | ⟨hb_33, rfl⟩
    · refine zr_if_ne (pc := 36) (tgt := 43) hx hb dX7_endHire_36 (by decide) (by decide) (fun _ => ?_) (fun z => absurd z (by decide))
      have hfb := feeF_bd (n := g 3 - gH g h 1 + 1) (r := gH g h 4) (by omega) (by omega) (by omega) (by omega)
      refine lv_aload_n (pc := 43) hx hb dX7_endHire_43 rfl (lv_at hl 0 rfl) ?_
      refine zr_get (pc := 44) S hK hY.1 rfl i_X7 1 (by decide) (List.mem_of_getElem? (i := 4) rfl) rfl dX7_endHire_44 ?_
      refine lv_aload_n (pc := 47) hx hb dX7_endHire_47 rfl (lv_at hl 0 rfl) ?_
      refine zr_get (pc := 48) S hK hY.1 rfl i_X7 0 (by decide) (List.mem_of_getElem? (i := 1) rfl) rfl dX7_endHire_48 ?_
      refine zr_vwv (pc := 51) (As := [.ref (ad 0)]) (rest := []) S (ct_X2_remember l D cI cT H.size ad σ σs n m hn hm hJ7) (cwV 1 hts gX7_endHire_X2_remember rfl rfl rfl (by decide +kernel) ⟨Nat.le_of_ble_eq_true rfl, Nat.le_of_ble_eq_true rfl⟩) zs0 hK ⟨hP, hH1, hH2, hQ⟩ (zr_recv hK hH1 rfl) hS (fun q h => h.elim (fun z => z.elim (fun e => by rw [e]; exact hA7 125 (by decide)) (fun ⟨j, k, hj, hk, e⟩ => by rw [e]; exact hA7 _ (by omega))) (fun z => hAn q (Nat.le_trans hS.1 z))) rfl hl.1 rfl (Nat.le_of_ble_eq_true rfl) dX7_endHire_51 ⟨Nat.le_of_ble_eq_true rfl, Nat.le_of_ble_eq_true rfl⟩ (fun H locs hG hz hk hS => ?_)
      obtain ⟨hH1, hH2, hQ⟩ := hG
      have hP := hP.keep hk (fun k k0 z => z.elim (fun z => z.elim (fun e => absurd (hJ7 k 125 (by omega) (by decide) e) (by omega)) (fun ⟨j, i, hj, hi, e⟩ => hd_ne hJ7 hj hi (by omega) (by omega) e.symm)) (fun y => absurd (hP.lt k0) (Nat.not_lt.mpr y)))
      have hY := hY.keep hk (fun k k0 k1 hlt z => z.elim (fun z => z.elim (fun e => absurd (hJ7 k 125 (by omega) (by decide) e) (by omega)) (fun ⟨j, i, hj, hi, e⟩ => hd_ne hJ7 hj hi (by omega) (by omega) e.symm)) (fun y => absurd hlt (Nat.not_lt.mpr y)))
      have hC := cH_push hC hn hm (rel_cp (σ := σs m) hR)
      rw [hpN_i n hn, nx_i m hm] at hH1
      refine lv_aload_n (pc := 54) hx hb dX7_endHire_54 rfl (lv_at hl 0 rfl) ?_
      refine zr_get (pc := 55) S hK hY.1 rfl i_X7 0 (by decide) (List.mem_of_getElem? (i := 1) rfl) rfl dX7_endHire_55 ?_
      refine zr_get (pc := 58) S hK (hP 0 (by decide)) rfl i_X4 2 (by decide) (List.mem_of_getElem? (i := 2) rfl) rfl dX7_endHire_58 ?_
      refine lv_iload_n (pc := 61) hx hb dX7_endHire_61 rfl (lv_at hl 1 rfl) ?_
      refine lv_aload_n (pc := 62) hx hb dX7_endHire_62 rfl (lv_at hl 0 rfl) ?_
      refine zr_get (pc := 63) S hK hY.1 rfl i_X7 0 (by decide) (List.mem_of_getElem? (i := 1) rfl) rfl dX7_endHire_63 ?_
      refine zr_get (pc := 66) S hK (hP 0 (by decide)) rfl i_X4 4 (by decide) (List.mem_of_getElem? (i := 3) rfl) rfl dX7_endHire_66 ?_
      refine zr_top (b := g 3) (rl_to hR) ?_
      refine zr_vwi (pc := 69) (As := [.int (zI (h)), .int (zI (g 3))]) (rest := []) S (ct_X1_end l D cI cT H.size ad σ g hR hI hJ h (g 3) (by omega) (by omega) (by omega) (by omega) (by omega)) (cwV 2 hts gX7_endHire_X1_end rfl rfl rfl (by decide +kernel) ⟨Nat.le_of_ble_eq_true rfl, Nat.le_of_ble_eq_true rfl⟩) zs0 hK hP (zr_recv hK (hP 3 (by decide)) rfl) hS (fun q h => h.elim (fun ⟨k, k0, e⟩ => by rw [e]; exact hAin k k0) (fun z => hAn q (Nat.le_trans hS.1 z))) rfl hl.1 rfl (Nat.le_of_ble_eq_true rfl) dX7_endHire_69 ⟨Nat.le_of_ble_eq_true rfl, Nat.le_of_ble_eq_true rfl⟩ (fun r_69 H locs hG hz hk hS => ?_)
      have hH1 := hH1.kept (hk _ hH1.lt (fun z => z.elim (fun ⟨i, i0, e⟩ => absurd (hJ7 125 i (by decide) (by omega) e) (by omega)) (fun y => absurd hH1.lt (Nat.not_lt.mpr y))))
      have hH2 := hH2.kept (hk _ hH2.lt (fun z => z.elim (fun ⟨i, i0, e⟩ => absurd (hJ7 126 i (by decide) (by omega) e) (by omega)) (fun y => absurd hH2.lt (Nat.not_lt.mpr y))))
      have hQ : hQs D cI ad _ H := fun j hj => (hQ j hj).keep hk (fun k k0 z => z.elim (fun ⟨i, i0, e⟩ => hd_ne hJ7 hj k0 (by omega) (by omega) e) (fun y => absurd ((hQ j hj).lt k0) (Nat.not_lt.mpr y)))
      have hY := hY.keep hk (fun k k0 k1 hlt z => z.elim (fun ⟨i, i0, e⟩ => absurd (hJ7 k i (by omega) (by omega) e) (by omega)) (fun y => absurd hlt (Nat.not_lt.mpr y)))
      obtain ⟨rfl, σ24, hR24, hP⟩ := hG
      have s5 : zu (zu g (452 + 5 * h + 2) (g 3 - gH g h 1 + 1)) (452 + 5 * h + 3) (gH g h 3 - (gH g h 3 - feeF (g 3 - gH g h 1 + 1) (gH g h 4)).tdiv 2) 5 = g 5 := (zu_n (by omega)).trans (zu_n (by omega))
      refine lv_istore_n (pc := 72) (lv' := [(2, .int (zI ((gH g h 3 - feeF ((g 3) - gH g h 1 + 1) (gH g h 4)).tdiv 2))), (0, .ref (ad 120)), (1, .int (zI (h)))]) hx hb dX7_endHire_72 rfl hl (by decide) rfl (fun ls hl => ?_)
      refine lv_aload_n (pc := 73) hx hb dX7_endHire_73 rfl (lv_at hl 1 rfl) ?_
      refine zr_get (pc := 74) S hK hY.1 rfl i_X7 0 (by decide) (List.mem_of_getElem? (i := 1) rfl) rfl dX7_endHire_74 ?_
      refine lv_dup (pc := 77) hx hb dX7_endHire_77 rfl ?_
      refine zr_get (pc := 78) S hK (hP 0 (by decide)) rfl i_X4 6 (by decide) (List.mem_of_getElem? (i := 5) rfl) rfl dX7_endHire_78 ?_
      refine zr_top (b := (zu (zu g (452 + 5 * h + 2) ((g 3) - gH g h 1 + 1)) (452 + 5 * h + 3) (gH g h 3 - (gH g h 3 - feeF ((g 3) - gH g h 1 + 1) (gH g h 4)).tdiv 2)) 5) (rl_fe hR24) ?_
      refine lv_iload_n (pc := 81) hx hb dX7_endHire_81 rfl (lv_at hl 0 rfl) ?_
      refine zr_isub (pc := 82) (d := ((zu (zu g (452 + 5 * h + 2) ((g 3) - gH g h 1 + 1)) (452 + 5 * h + 3) (gH g h 3 - (gH g h 3 - feeF ((g 3) - gH g h 1 + 1) (gH g h 4)).tdiv 2)) 5) - ((gH g h 3 - feeF ((g 3) - gH g h 1 + 1) (gH g h 4)).tdiv 2)) hx hb dX7_endHire_82 rfl ?_
      refine zr_put (pc := 83) S hK (hP 0 (by decide)) rfl i_X4 tyX4 tyX4_ok nmX4 6 (by decide) (List.mem_of_getElem? (i := 5) rfl) rfl rfl rfl (Nat.le_of_ble_eq_true rfl) hS (hAin 0 (by decide)) dX7_endHire_83 (fun H locs hO hz hk hS => ?_)
      have hkk := fun (q : Nat) (h : _) (z : q ≠ ad 0) => hk q h z
      have hH1 := hH1.kept (hkk _ hH1.lt (fun e => absurd (hJ7 125 0 (by decide) (by decide) e) (by decide)))
      have hH2 := hH2.kept (hkk _ hH2.lt (fun e => absurd (hJ7 126 0 (by decide) (by decide) e) (by decide)))
      have hQ : hQs D cI ad _ H := fun j hj => (hQ j hj).keep (A1 := fun q => q = ad 0) (fun q h z => hkk q h z) (fun k k0 e => hd_ne hJ7 hj k0 (by decide) (by omega) e)
      have hY := hY.keep (A := fun q => q = ad 0) (fun q h z => hkk q h z) (fun k k0 k1 _ e => absurd (hJ7 k 0 (by omega) (by decide) e) (by omega))
      have hP := zW.put hP hJ 0 (by decide) hO hk (sC_0_2 (((zu (zu g (452 + 5 * h + 2) ((g 3) - gH g h 1 + 1)) (452 + 5 * h + 3) (gH g h 3 - (gH g h 3 - feeF ((g 3) - gH g h 1 + 1) (gH g h 4)).tdiv 2)) 5) - ((gH g h 3 - feeF ((g 3) - gH g h 1 + 1) (gH g h 4)).tdiv 2)))
      refine lv_iload_n (pc := 86) hx hb dX7_endHire_86 rfl (lv_at hl 0 rfl) ?_
      exact W.iret (v := zI ((gH g h 3 - feeF ((g 3) - gH g h 1 + 1) (gH g h 4)).tdiv 2)) hx hb hr (fun tz ht hW => ⟨⟨zI ((gH g h 3 - feeF ((g 3) - gH g h 1 + 1) (gH g h 4)).tdiv 2), zI ((gH g h 3 - feeF ((g 3) - gH g h 1 + 1) (gH g h 4)).tdiv 2), rfl, rfl, by dsimp only; rw [ht]; exact ⟨_, _, _, _, _, _, ⟨rel_fe hR24 (inv_h3 (by omega) (by rw [zu_n (by omega)]; omega) (by have := hh; have := hfb; first | omega | (rcases Int.le_total 0 (gH g h 3 - feeF (g 3 - gH g h 1 + 1) (gH g h 4)) with z | z <;> first | (rw [Int.tdiv_eq_ediv_of_nonneg z]; omega) | (have e := Int.neg_tdiv (gH g h 3 - feeF (g 3 - gH g h 1 + 1) (gH g h 4)) 2; rw [Int.tdiv_eq_ediv_of_nonneg (by omega)] at e; omega))) (inv_h2 (by omega) (by omega) (by omega) hI)), hC, hpN_le n, Nat.mod_lt _ (by decide)⟩, oR_ok ((tft (by omega)).trans (tft hb_33)) (rfl) (by rw [s5]; rfl), hP, hH1, hH2, hQ, hY⟩⟩, hS.F ht⟩) hS.2.2 dX7_endHire_87
    · refine zr_if_ne (pc := 36) (tgt := 43) hx hb dX7_endHire_36 (by decide) (by decide) (fun z => absurd z (by decide)) (fun _ => ?_)
      refine lv_sipush (pc := 39) (v := zI (-2002)) hx hb dX7_endHire_39 zc_sipush_m2002 ?_
      exact W.iret (v := zI ((-2002))) hx hb hr (fun tz ht hW => ⟨⟨zI ((-2002)), zI ((-2002)), rfl, rfl, by dsimp only; rw [ht]; exact ⟨_, _, _, _, _, _, ⟨hR, hC, hn, hm⟩, oR_no ((tft (by omega)).trans (tff (fun q => hb_33 q))) (by decide), hP, hH1, hH2, hQ, hY⟩⟩, hS.F ht⟩) hS.2.2 dX7_endHire_42
  · refine zr_if_ne (pc := 11) (tgt := 18) hx hb dX7_endHire_11 (by decide) (by decide) (fun z => absurd z (by decide)) (fun _ => ?_)
    refine lv_sipush (pc := 14) (v := zI (-2001)) hx hb dX7_endHire_14 zc_sipush_m2001 ?_
    exact W.iret (v := zI ((-2001))) hx hb hr (fun tz ht hW => ⟨⟨zI ((-2001)), zI ((-2001)), rfl, rfl, by dsimp only; rw [ht]; exact ⟨_, _, _, _, _, _, ⟨hR, hC, hn, hm⟩, oR_no (tff (fun q => by omega)) (by decide), hP, hH1, hH2, hQ, hY⟩⟩, hS.F ht⟩) hS.2.2 dX7_endHire_17
