set_option maxHeartbeats 4000000 in
set_option maxRecDepth 100000 in
theorem ct_X7_alter (l : Launch) (D : va_G) (cI cT : ClassId) (sz : Nat) (ad : Nat → Nat) (σ : Nat → Int → Int) (g : Int → Int) (hR : Rel σ g) (hI : Inv g) (σs : Nat → Nat → Int → Int) (n m : Nat) (hs : Nat → Int → Int) (tl : Int) (tx rd rp : Int → Int) (hn : n ≤ 5) (hm : m < 5) (hC : cH σs n m hs) (hJ7 : zJ ad 127) (c : Int) (m0 : Int) (d : Int) (r_c : -2147483648 ≤ c ∧ c ≤ 2147483647) (r_m0 : -2147483648 ≤ m0 ∧ m0 ≤ 2147483647) (r_d : -2147483648 ≤ d ∧ d ≤ 2147483647) : zMi l yX7_alter wsX7_alter ({ frames := 5, cells := 0, slots := 0, locals := 115 }) D cI cT [.ref (ad 120), .int (zI (c)), .int (zI (m0)), .int (zI (d))] sz (fun _ H => zW D ad 20 (sC cI ad σ) H ∧ hO1 D ad (n : Int) (m : Int) H ∧ hO2 D cT ad H ∧ hQs D cI ad σs H ∧ cY D cI ad tl tx rd rp H) (fun rr H => ∃ (σ' : Nat → Int → Int) (σs' : Nat → Nat → Int → Int) (g' : Int → Int) (n' m' : Nat) (hs' : Nat → Int → Int), (Rel σ' g' ∧ cH σs' n' m' hs' ∧ n' ≤ 5 ∧ m' < 5) ∧ oR (eAlt g c m0 d) (10 + 5 * zabs d) (zu (altG g c m0 d) 4 (g 4 + (10 + 5 * zabs d))) g n hs g' n' hs' rr ∧ zW D ad 20 (sC cI ad σ') H ∧ hO1 D ad (n' : Int) (m' : Int) H ∧ hO2 D cT ad H ∧ hQs D cI ad σs' H ∧ cY D cI ad tl tx rd rp H) (zR ad 127 sz) := by
  refine Met.ofW (cc := cX7_alter) (maxL := 5) (ret := (some .int)) (by decide) rfl ?_
  intro p_ e_ s m_ args below meth c_ s₁ B hml hv
  obtain ⟨rfl, hsz, hK, hF⟩ := hv
  have hx := B.exec
  have hb := B.bytes
  have hr := B.returns
  have hts := atoms_spec (ws := wsX7_alter) B.pre
  have hown : s.vm.findClass RX7 = some m_.cls := findClass_of_methodNamed B.named
  have hlocks := B.notSynchronized
  have S : CallFix p_ m_ c_ cX7_alter 5 s _ wsX7_alter RX7 := ⟨hx, hb, hml, hown, hts⟩
  have i_X7 : ∀ w ∈ u_ws RX7 TX7 4, w ∈ wsX7_alter := fun _ h => List.mem_cons_of_mem _ (List.mem_append_left _ (List.mem_append_left _ (List.mem_append_left _ (List.mem_append_left _ (List.mem_append_left _ (List.mem_append_right _ h))))))
  have i_X4 : ∀ w ∈ u_ws RX4 TX4 9, w ∈ wsX7_alter := fun _ h => List.mem_cons_of_mem _ (List.mem_append_left _ (List.mem_append_left _ (List.mem_append_left _ (List.mem_append_left _ (List.mem_append_right _ h)))))
  subst hsz
  generalize hAe : (zR ad 127 s.heap.size) = A
  have hAn : ∀ q : Nat, s.heap.size ≤ q → A q := fun q h => by rw [← hAe]; exact Or.inr h
  obtain ⟨H, hHe⟩ : ∃ H : Heap, H = s.heap := ⟨_, rfl⟩
  rw [← hHe] at hF ⊢
  have hS : va_S A s.heap H [] := by rw [hHe]; exact va_S.rf
  obtain ⟨hP, hH1, hH2, hQ, hY⟩ := hF
  have hA7 : ∀ k : Nat, k < 127 → A (ad k) := fun k hk => by rw [← hAe]; exact Or.inl ⟨k, hk, rfl⟩
  have hAin : ∀ k : Nat, k < 20 → A (ad k) := fun k hk => hA7 k (by omega)
  have hJ : zJ ad 20 := zJ_le hJ7 (by decide)
  have hnC := iv_nC hI
  have hl := lv_entry ([.ref (ad 120), .int (zI (c)), .int (zI (m0)), .int (zI (d))]) (n := 5) (Nat.le_of_ble_eq_true rfl)
  rw [lg_entry_eq]
  generalize (lg_sl ([.ref (ad 120), .int (zI (c)), .int (zI (m0)), .int (zI (d))]) ++ List.replicate (5 - (lg_sl ([.ref (ad 120), .int (zI (c)), .int (zI (m0)), .int (zI (d))])).length) Slot.unset).toArray = ls at hl ⊢
  have hl : lv_has ls 5 [(0, .ref (ad 120)), (1, .int (zI (c))), (2, .int (zI (m0))), (3, .int (zI (d)))] := hl
  refine lv_aload_n (pc := 0) hx hb dX7_alter_0 rfl (lv_at hl 0 rfl) ?_
  refine zr_get (pc := 1) S hK hY.1 rfl i_X7 0 (by decide) (List.mem_of_getElem? (i := 1) rfl) rfl dX7_alter_1 ?_
  refine zr_get (pc := 4) S hK (hP 0 (by decide)) rfl i_X4 0 (by decide) (List.mem_of_getElem? (i := 2) rfl) rfl dX7_alter_4 ?_
  refine lv_iload_n (pc := 7) hx hb dX7_alter_7 rfl (lv_at hl 1 rfl) ?_
  refine zr_vi (pc := 8) (As := [.int (zI (c))]) (rest := []) S (ct_X6_has l D cI cT ad σ g hR hI c (by omega)) (cwV 1 hts gX7_alter_X6_has rfl rfl rfl (by decide +kernel) ⟨Nat.le_of_ble_eq_true rfl, Nat.le_of_ble_eq_true rfl⟩) zs0 hK hP (zr_recv hK (hP 1 (by decide)) rfl) rfl hl.1 rfl (Nat.le_of_ble_eq_true rfl) dX7_alter_8 ⟨Nat.le_of_ble_eq_true rfl, Nat.le_of_ble_eq_true rfl⟩ (fun r_8 hr_8 => ?_)
  rcases hr_8 with ⟨hb_8, rfl⟩ | ⟨hb_8, rfl⟩
  · refine zr_if_eq (pc := 11) (tgt := 38) hx hb dX7_alter_11 (by decide) (by decide) (fun z => absurd z (by decide)) (fun _ => ?_)
    refine lv_iload_n (pc := 14) hx hb dX7_alter_14 rfl (lv_at hl 2 rfl) ?_
    refine lv_iconst (pc := 15) (v := zI 0) hx hb dX7_alter_15 rfl ?_
    refine lv_iconst (pc := 16) (v := zI 2) hx hb dX7_alter_16 rfl ?_
    refine zr_si (pc := 17) (As := [.int (zI (m0)), .int (zI (0)), .int (zI (2))]) (rest := []) S (ct_X7_isWithin l D cI cT m0 0 2 (by omega) (by decide) (by decide)) (va_cwS 3 hts gX7_alter_X7_isWithin rfl rfl rfl (by decide +kernel) ⟨Nat.le_of_ble_eq_true rfl, Nat.le_of_ble_eq_true rfl⟩) zs0 hK trivial rfl hl.1 rfl (Nat.le_of_ble_eq_true rfl) dX7_alter_17 ⟨Nat.le_of_ble_eq_true rfl, Nat.le_of_ble_eq_true rfl⟩ (fun r_17 hr_17 => ?_)
    rcases hr_17 with ⟨hb_17, rfl⟩ | ⟨hb_17, rfl⟩
    · refine zr_if_eq (pc := 20) (tgt := 38) hx hb dX7_alter_20 (by decide) (by decide) (fun z => absurd z (by decide)) (fun _ => ?_)
      refine lv_iload_n (pc := 23) hx hb dX7_alter_23 rfl (lv_at hl 3 rfl) ?_
      refine lv_bipush (pc := 24) (v := zI (-10)) hx hb dX7_alter_24 zc_bipush_m10 ?_
      refine lv_bipush (pc := 26) (v := zI 10) hx hb dX7_alter_26 zc_bipush_10 ?_
      refine zr_si (pc := 28) (As := [.int (zI (d)), .int (zI ((-10))), .int (zI (10))]) (rest := []) S (ct_X7_isWithin l D cI cT d ((-10)) 10 (by omega) (by decide) (by decide)) (va_cwS 3 hts gX7_alter_X7_isWithin rfl rfl rfl (by decide +kernel) ⟨Nat.le_of_ble_eq_true rfl, Nat.le_of_ble_eq_true rfl⟩) zs0 hK trivial rfl hl.1 rfl (Nat.le_of_ble_eq_true rfl) dX7_alter_28 ⟨Nat.le_of_ble_eq_true rfl, Nat.le_of_ble_eq_true rfl⟩ (fun r_28 hr_28 => ?_)
      rcases hr_28 with ⟨hb_28, rfl⟩ | ⟨hb_28, rfl⟩
      · refine zr_if_eq (pc := 31) (tgt := 38) hx hb dX7_alter_31 (by decide) (by decide) (fun z => absurd z (by decide)) (fun _ => ?_)
        refine lv_iload_n (pc := 34) hx hb dX7_alter_34 rfl (lv_at hl 3 rfl) ?_
        refine zr_if_ne (pc := 35) (tgt := 42) hx hb dX7_alter_35 (by decide) (by omega) (fun c_35 => ?_) (fun c_35 => ?_)
        · have hna := iv_na hI (c := c) (by omega) (by omega)
          refine lv_aload_n (pc := 42) hx hb dX7_alter_42 rfl (lv_at hl 0 rfl) ?_
          refine zr_get (pc := 43) S hK hY.1 rfl i_X7 0 (by decide) (List.mem_of_getElem? (i := 1) rfl) rfl dX7_alter_43 ?_
          refine lv_iload_n (pc := 46) hx hb dX7_alter_46 rfl (lv_at hl 1 rfl) ?_
          refine zr_vi (pc := 47) (As := [.int (zI (c))]) (rest := []) S (ct_X4_isAway l D cI cT ad σ g hR hI c (by omega) (by omega)) (cwV 1 hts gX7_alter_X4_isAway rfl rfl rfl (by decide +kernel) ⟨Nat.le_of_ble_eq_true rfl, Nat.le_of_ble_eq_true rfl⟩) zs0 hK hP (zr_recv hK (hP 0 (by decide)) rfl) rfl hl.1 rfl (Nat.le_of_ble_eq_true rfl) dX7_alter_47 ⟨Nat.le_of_ble_eq_true rfl, Nat.le_of_ble_eq_true rfl⟩ (fun r_47 hr_47 => ?_)
          rcases hr_47 with ⟨hb_47, rfl⟩ | ⟨hb_47, rfl⟩
          · refine zr_if_ne (pc := 50) (tgt := 69) hx hb dX7_alter_50 (by decide) (by decide) (fun _ => ?_) (fun z => absurd z (by decide))
            refine lv_sipush (pc := 69) (v := zI (-2002)) hx hb dX7_alter_69 zc_sipush_m2002 ?_
            exact W.iret (v := zI ((-2002))) hx hb hr (fun tz ht hW => ⟨⟨zI ((-2002)), zI ((-2002)), rfl, rfl, by dsimp only; rw [ht]; exact ⟨_, _, _, _, _, _, ⟨hR, hC, hn, hm⟩, oR_no ((tft (by omega)).trans (tff (fun q => by first | exact q.1 hb_47 | exact hb_63 q.2))) (by decide), hP, hH1, hH2, hQ, hY⟩⟩, hS.F ht⟩) hS.2.2 dX7_alter_72
          · refine zr_if_ne (pc := 50) (tgt := 69) hx hb dX7_alter_50 (by decide) (by decide) (fun z => absurd z (by decide)) (fun _ => ?_)
            refine lv_aload_n (pc := 53) hx hb dX7_alter_53 rfl (lv_at hl 0 rfl) ?_
            refine zr_get (pc := 54) S hK hY.1 rfl i_X7 0 (by decide) (List.mem_of_getElem? (i := 1) rfl) rfl dX7_alter_54 ?_
            refine zr_get (pc := 57) S hK (hP 0 (by decide)) rfl i_X4 0 (by decide) (List.mem_of_getElem? (i := 2) rfl) rfl dX7_alter_57 ?_
            refine lv_iload_n (pc := 60) hx hb dX7_alter_60 rfl (lv_at hl 1 rfl) ?_
            refine lv_iload_n (pc := 61) hx hb dX7_alter_61 rfl (lv_at hl 2 rfl) ?_
            refine lv_iload_n (pc := 62) hx hb dX7_alter_62 rfl (lv_at hl 3 rfl) ?_
            refine zr_vi (pc := 63) (As := [.int (zI (c)), .int (zI (m0)), .int (zI (d))]) (rest := []) S (ct_X6_allows l D cI cT ad σ g hR hI c m0 d (by omega) (by omega) (by omega) (by omega) (by omega) (by omega)) (cwV 3 hts gX7_alter_X6_allows rfl rfl rfl (by decide +kernel) ⟨Nat.le_of_ble_eq_true rfl, Nat.le_of_ble_eq_true rfl⟩) zs0 hK hP (zr_recv hK (hP 1 (by decide)) rfl) rfl hl.1 rfl (Nat.le_of_ble_eq_true rfl) dX7_alter_63 ⟨Nat.le_of_ble_eq_true rfl, Nat.le_of_ble_eq_true rfl⟩ (fun r_63 hr_63 => ?_)
            rcases hr_63 with ⟨hb_63, rfl⟩ | ⟨hb_63, rfl⟩
            · refine zr_if_ne (pc := 66) (tgt := 73) hx hb dX7_alter_66 (by decide) (by decide) (fun _ => ?_) (fun z => absurd z (by decide))
              refine lv_aload_n (pc := 73) hx hb dX7_alter_73 rfl (lv_at hl 0 rfl) ?_
              refine zr_get (pc := 74) S hK hY.1 rfl i_X7 0 (by decide) (List.mem_of_getElem? (i := 1) rfl) rfl dX7_alter_74 ?_
              refine zr_get (pc := 77) S hK (hP 0 (by decide)) rfl i_X4 0 (by decide) (List.mem_of_getElem? (i := 2) rfl) rfl dX7_alter_77 ?_
              refine lv_iload_n (pc := 80) hx hb dX7_alter_80 rfl (lv_at hl 1 rfl) ?_
              refine zr_vi (pc := 81) (As := [.int (zI (c))]) (rest := []) S (ct_X6_roomForAlterations l D cI cT ad σ g hR hI c (by omega) (by omega)) (cwV 1 hts gX7_alter_X6_roomForAlterations rfl rfl rfl (by decide +kernel) ⟨Nat.le_of_ble_eq_true rfl, Nat.le_of_ble_eq_true rfl⟩) zs0 hK hP (zr_recv hK (hP 1 (by decide)) rfl) rfl hl.1 rfl (Nat.le_of_ble_eq_true rfl) dX7_alter_81 ⟨Nat.le_of_ble_eq_true rfl, Nat.le_of_ble_eq_true rfl⟩ (fun r_81 hr_81 => ?_)
              subst hr_81
              refine zr_if_gt (pc := 84) (tgt := 91) hx hb dX7_alter_84 (by decide) (by omega) (fun c_84 => ?_) (fun c_84 => ?_)
              · refine lv_aload_n (pc := 91) hx hb dX7_alter_91 rfl (lv_at hl 0 rfl) ?_
                refine zr_get (pc := 92) S hK hY.1 rfl i_X7 1 (by decide) (List.mem_of_getElem? (i := 3) rfl) rfl dX7_alter_92 ?_
                refine lv_aload_n (pc := 95) hx hb dX7_alter_95 rfl (lv_at hl 0 rfl) ?_
                refine zr_get (pc := 96) S hK hY.1 rfl i_X7 0 (by decide) (List.mem_of_getElem? (i := 1) rfl) rfl dX7_alter_96 ?_
                refine zr_vwv (pc := 99) (As := [.ref (ad 0)]) (rest := []) S (ct_X2_remember l D cI cT H.size ad σ σs n m hn hm hJ7) (cwV 1 hts gX7_alter_X2_remember rfl rfl rfl (by decide +kernel) ⟨Nat.le_of_ble_eq_true rfl, Nat.le_of_ble_eq_true rfl⟩) zs0 hK ⟨hP, hH1, hH2, hQ⟩ (zr_recv hK hH1 rfl) hS (fun q h => h.elim (fun z => z.elim (fun e => by rw [e]; exact hA7 125 (by decide)) (fun ⟨j, k, hj, hk, e⟩ => by rw [e]; exact hA7 _ (by omega))) (fun z => hAn q (Nat.le_trans hS.1 z))) rfl hl.1 rfl (Nat.le_of_ble_eq_true rfl) dX7_alter_99 ⟨Nat.le_of_ble_eq_true rfl, Nat.le_of_ble_eq_true rfl⟩ (fun H locs hG hz hk hS => ?_)
                obtain ⟨hH1, hH2, hQ⟩ := hG
                have hP := hP.keep hk (fun k k0 z => z.elim (fun z => z.elim (fun e => absurd (hJ7 k 125 (by omega) (by decide) e) (by omega)) (fun ⟨j, i, hj, hi, e⟩ => hd_ne hJ7 hj hi (by omega) (by omega) e.symm)) (fun y => absurd (hP.lt k0) (Nat.not_lt.mpr y)))
                have hY := hY.keep hk (fun k k0 k1 hlt z => z.elim (fun z => z.elim (fun e => absurd (hJ7 k 125 (by omega) (by decide) e) (by omega)) (fun ⟨j, i, hj, hi, e⟩ => hd_ne hJ7 hj hi (by omega) (by omega) e.symm)) (fun y => absurd hlt (Nat.not_lt.mpr y)))
                have hC := cH_push hC hn hm (rel_cp (σ := σs m) hR)
                rw [hpN_i n hn, nx_i m hm] at hH1
                refine lv_aload_n (pc := 102) hx hb dX7_alter_102 rfl (lv_at hl 0 rfl) ?_
                refine zr_get (pc := 103) S hK hY.1 rfl i_X7 0 (by decide) (List.mem_of_getElem? (i := 1) rfl) rfl dX7_alter_103 ?_
                refine zr_get (pc := 106) S hK (hP 0 (by decide)) rfl i_X4 0 (by decide) (List.mem_of_getElem? (i := 2) rfl) rfl dX7_alter_106 ?_
                refine lv_iload_n (pc := 109) hx hb dX7_alter_109 rfl (lv_at hl 1 rfl) ?_
                refine lv_iload_n (pc := 110) hx hb dX7_alter_110 rfl (lv_at hl 2 rfl) ?_
                refine lv_iload_n (pc := 111) hx hb dX7_alter_111 rfl (lv_at hl 3 rfl) ?_
                refine zr_vwv (pc := 112) (As := [.int (zI (c)), .int (zI (m0)), .int (zI (d))]) (rest := []) S (ct_X6_addAlteration l D cI cT H.size ad σ g hR hI hJ c m0 d (by omega) (by omega) (by omega)) (cwV 3 hts gX7_alter_X6_addAlteration rfl rfl rfl (by decide +kernel) ⟨Nat.le_of_ble_eq_true rfl, Nat.le_of_ble_eq_true rfl⟩) zs0 hK hP (zr_recv hK (hP 1 (by decide)) rfl) hS (fun q h => h.elim (fun ⟨k, k0, e⟩ => by rw [e]; exact hAin k k0) (fun z => hAn q (Nat.le_trans hS.1 z))) rfl hl.1 rfl (Nat.le_of_ble_eq_true rfl) dX7_alter_112 ⟨Nat.le_of_ble_eq_true rfl, Nat.le_of_ble_eq_true rfl⟩ (fun H locs hG hz hk hS => ?_)
                have hH1 := hH1.kept (hk _ hH1.lt (fun z => z.elim (fun ⟨i, i0, e⟩ => absurd (hJ7 125 i (by decide) (by omega) e) (by omega)) (fun y => absurd hH1.lt (Nat.not_lt.mpr y))))
                have hH2 := hH2.kept (hk _ hH2.lt (fun z => z.elim (fun ⟨i, i0, e⟩ => absurd (hJ7 126 i (by decide) (by omega) e) (by omega)) (fun y => absurd hH2.lt (Nat.not_lt.mpr y))))
                have hQ : hQs D cI ad _ H := fun j hj => (hQ j hj).keep hk (fun k k0 z => z.elim (fun ⟨i, i0, e⟩ => hd_ne hJ7 hj k0 (by omega) (by omega) e) (fun y => absurd ((hQ j hj).lt k0) (Nat.not_lt.mpr y)))
                have hY := hY.keep hk (fun k k0 k1 hlt z => z.elim (fun ⟨i, i0, e⟩ => absurd (hJ7 k i (by omega) (by omega) e) (by omega)) (fun y => absurd hlt (Nat.not_lt.mpr y)))
                obtain ⟨σ25, hR25, hP⟩ := hG
                have s4 : altG g c m0 d 4 = g 4 := (zu_n (by omega)).trans ((zu_n (by omega)).trans (zu_n (by omega)))
                refine lv_bipush (pc := 115) (v := zI 10) hx hb dX7_alter_115 zc_bipush_10 ?_
                refine lv_iconst (pc := 117) (v := zI 5) hx hb dX7_alter_117 rfl ?_
                refine lv_iload_n (pc := 118) hx hb dX7_alter_118 rfl (lv_at hl 3 rfl) ?_
                refine zr_mabs (pc := 119) hx hb (hml.trans hl.1.symm) hown (hts _ (List.mem_of_getElem? (i := 4) rfl)) (hts _ (List.mem_of_getElem? (i := 5) rfl)) (hts _ (List.mem_of_getElem? (i := 6) rfl)) (hts _ (List.mem_of_getElem? (i := 7) rfl)) (Nat.le_of_ble_eq_true rfl) (Nat.le_of_ble_eq_true rfl) (Nat.le_of_ble_eq_true rfl) (Nat.le_of_ble_eq_true rfl) dX7_alter_119 (by omega) (rfl : _ = zabs d) ?_
                refine zr_imul (pc := 122) (d := 5 * (zabs d)) hx hb dX7_alter_122 rfl ?_
                refine zr_iadd (pc := 123) (d := 10 + (5 * (zabs d))) hx hb dX7_alter_123 rfl ?_
                refine lv_istore (pc := 124) (lv' := [(4, .int (zI (10 + (5 * (zabs d))))), (0, .ref (ad 120)), (1, .int (zI (c))), (2, .int (zI (m0))), (3, .int (zI (d)))]) hx hb dX7_alter_124 hl (by decide) rfl (fun ls hl => ?_)
                refine lv_aload_n (pc := 126) hx hb dX7_alter_126 rfl (lv_at hl 1 rfl) ?_
                refine zr_get (pc := 127) S hK hY.1 rfl i_X7 0 (by decide) (List.mem_of_getElem? (i := 1) rfl) rfl dX7_alter_127 ?_
                refine lv_dup (pc := 130) hx hb dX7_alter_130 rfl ?_
                refine zr_get (pc := 131) S hK (hP 0 (by decide)) rfl i_X4 5 (by decide) (List.mem_of_getElem? (i := 8) rfl) rfl dX7_alter_131 ?_
                refine zr_top (b := (altG g c m0 d) 4) (rl_mi hR25) ?_
                refine lv_iload (pc := 134) hx hb dX7_alter_134 (lv_at hl 0 rfl) ?_
                refine zr_iadd (pc := 136) (d := ((altG g c m0 d) 4) + (10 + (5 * (zabs d)))) hx hb dX7_alter_136 rfl ?_
                refine zr_put (pc := 137) S hK (hP 0 (by decide)) rfl i_X4 tyX4 tyX4_ok nmX4 5 (by decide) (List.mem_of_getElem? (i := 8) rfl) rfl rfl rfl (Nat.le_of_ble_eq_true rfl) hS (hAin 0 (by decide)) dX7_alter_137 (fun H locs hO hz hk hS => ?_)
                have hkk := fun (q : Nat) (h : _) (z : q ≠ ad 0) => hk q h z
                have hH1 := hH1.kept (hkk _ hH1.lt (fun e => absurd (hJ7 125 0 (by decide) (by decide) e) (by decide)))
                have hH2 := hH2.kept (hkk _ hH2.lt (fun e => absurd (hJ7 126 0 (by decide) (by decide) e) (by decide)))
                have hQ : hQs D cI ad _ H := fun j hj => (hQ j hj).keep (A1 := fun q => q = ad 0) (fun q h z => hkk q h z) (fun k k0 e => hd_ne hJ7 hj k0 (by decide) (by omega) e)
                have hY := hY.keep (A := fun q => q = ad 0) (fun q h z => hkk q h z) (fun k k0 k1 _ e => absurd (hJ7 k 0 (by omega) (by decide) e) (by omega))
                have hP := zW.put hP hJ 0 (by decide) hO hk (sC_0_1 (((altG g c m0 d) 4) + (10 + (5 * (zabs d)))))
                refine lv_iload (pc := 140) hx hb dX7_alter_140 (lv_at hl 0 rfl) ?_
                exact W.iret (v := zI (10 + (5 * (zabs d)))) hx hb hr (fun tz ht hW => ⟨⟨zI (10 + (5 * (zabs d))), zI (10 + (5 * (zabs d))), rfl, rfl, by dsimp only; rw [ht]; exact ⟨_, _, _, _, _, _, ⟨rel_mi hR25 (inv_alt hI (by omega) (by omega) (by omega) (by omega) (by omega)), hC, hpN_le n, Nat.mod_lt _ (by decide)⟩, oR_ok ((tft (by omega)).trans ((tft ⟨hb_47, hb_63⟩).trans (tft (by omega)))) (rfl) (by rw [s4]), hP, hH1, hH2, hQ, hY⟩⟩, hS.F ht⟩) hS.2.2 dX7_alter_142
              · refine lv_sipush (pc := 87) (v := zI (-2003)) hx hb dX7_alter_87 zc_sipush_m2003 ?_
                exact W.iret (v := zI ((-2003))) hx hb hr (fun tz ht hW => ⟨⟨zI ((-2003)), zI ((-2003)), rfl, rfl, by dsimp only; rw [ht]; exact ⟨_, _, _, _, _, _, ⟨hR, hC, hn, hm⟩, oR_no ((tft (by omega)).trans ((tft ⟨hb_47, hb_63⟩).trans (tff (by omega)))) (by decide), hP, hH1, hH2, hQ, hY⟩⟩, hS.F ht⟩) hS.2.2 dX7_alter_90
            · refine zr_if_ne (pc := 66) (tgt := 73) hx hb dX7_alter_66 (by decide) (by decide) (fun z => absurd z (by decide)) (fun _ => ?_)
              refine lv_sipush (pc := 69) (v := zI (-2002)) hx hb dX7_alter_69 zc_sipush_m2002 ?_
              exact W.iret (v := zI ((-2002))) hx hb hr (fun tz ht hW => ⟨⟨zI ((-2002)), zI ((-2002)), rfl, rfl, by dsimp only; rw [ht]; exact ⟨_, _, _, _, _, _, ⟨hR, hC, hn, hm⟩, oR_no ((tft (by omega)).trans (tff (fun q => by first | exact q.1 hb_47 | exact hb_63 q.2))) (by decide), hP, hH1, hH2, hQ, hY⟩⟩, hS.F ht⟩) hS.2.2 dX7_alter_72
        · refine lv_sipush (pc := 38) (v := zI (-2001)) hx hb dX7_alter_38 zc_sipush_m2001 ?_
          exact W.iret (v := zI ((-2001))) hx hb hr (fun tz ht hW => ⟨⟨zI ((-2001)), zI ((-2001)), rfl, rfl, by dsimp only; rw [ht]; exact ⟨_, _, _, _, _, _, ⟨hR, hC, hn, hm⟩, oR_no (tff (fun q => by omega)) (by decide), hP, hH1, hH2, hQ, hY⟩⟩, hS.F ht⟩) hS.2.2 dX7_alter_41
      · refine zr_if_eq (pc := 31) (tgt := 38) hx hb dX7_alter_31 (by decide) (by decide) (fun _ => ?_) (fun z => absurd z (by decide))
        refine lv_sipush (pc := 38) (v := zI (-2001)) hx hb dX7_alter_38 zc_sipush_m2001 ?_
        exact W.iret (v := zI ((-2001))) hx hb hr (fun tz ht hW => ⟨⟨zI ((-2001)), zI ((-2001)), rfl, rfl, by dsimp only; rw [ht]; exact ⟨_, _, _, _, _, _, ⟨hR, hC, hn, hm⟩, oR_no (tff (fun q => by omega)) (by decide), hP, hH1, hH2, hQ, hY⟩⟩, hS.F ht⟩) hS.2.2 dX7_alter_41
    · refine zr_if_eq (pc := 20) (tgt := 38) hx hb dX7_alter_20 (by decide) (by decide) (fun _ => ?_) (fun z => absurd z (by decide))
      refine lv_sipush (pc := 38) (v := zI (-2001)) hx hb dX7_alter_38 zc_sipush_m2001 ?_
      exact W.iret (v := zI ((-2001))) hx hb hr (fun tz ht hW => ⟨⟨zI ((-2001)), zI ((-2001)), rfl, rfl, by dsimp only; rw [ht]; exact ⟨_, _, _, _, _, _, ⟨hR, hC, hn, hm⟩, oR_no (tff (fun q => by omega)) (by decide), hP, hH1, hH2, hQ, hY⟩⟩, hS.F ht⟩) hS.2.2 dX7_alter_41
  · refine zr_if_eq (pc := 11) (tgt := 38) hx hb dX7_alter_11 (by decide) (by decide) (fun _ => ?_) (fun z => absurd z (by decide))
    refine lv_sipush (pc := 38) (v := zI (-2001)) hx hb dX7_alter_38 zc_sipush_m2001 ?_
    exact W.iret (v := zI ((-2001))) hx hb hr (fun tz ht hW => ⟨⟨zI ((-2001)), zI ((-2001)), rfl, rfl, by dsimp only; rw [ht]; exact ⟨_, _, _, _, _, _, ⟨hR, hC, hn, hm⟩, oR_no (tff (fun q => by omega)) (by decide), hP, hH1, hH2, hQ, hY⟩⟩, hS.F ht⟩) hS.2.2 dX7_alter_41
set_option maxHeartbeats 4000000 in
set_option maxRecDepth 100000 in
theorem ct_X7_unpick (l : Launch) (D : va_G) (cI cT : ClassId) (sz : Nat) (ad : Nat → Nat) (σ : Nat → Int → Int) (g : Int → Int) (hR : Rel σ g) (hI : Inv g) (σs : Nat → Nat → Int → Int) (n m : Nat) (hs : Nat → Int → Int) (tl : Int) (tx rd rp : Int → Int) (hn : n ≤ 5) (hm : m < 5) (hC : cH σs n m hs) (hJ7 : zJ ad 127) (c : Int) (r_c : -2147483648 ≤ c ∧ c ≤ 2147483647) : zMi l yX7_unpick wsX7_unpick ({ frames := 5, cells := 0, slots := 0, locals := 115 }) D cI cT [.ref (ad 120), .int (zI (c))] sz (fun _ H => zW D ad 20 (sC cI ad σ) H ∧ hO1 D ad (n : Int) (m : Int) H ∧ hO2 D cT ad H ∧ hQs D cI ad σs H ∧ cY D cI ad tl tx rd rp H) (fun rr H => ∃ (σ' : Nat → Int → Int) (σs' : Nat → Nat → Int → Int) (g' : Int → Int) (n' m' : Nat) (hs' : Nat → Int → Int), (Rel σ' g' ∧ cH σs' n' m' hs' ∧ n' ≤ 5 ∧ m' < 5) ∧ oR (eUnp g c) (5 + 2 * zabs (gX g c (gC g c 7 - 1))) (zu (zu g (12 + 20 * c + 7) (gC g c 7 - 1)) 4 (g 4 + (5 + 2 * zabs (gX g c (gC g c 7 - 1))))) g n hs g' n' hs' rr ∧ zW D ad 20 (sC cI ad σ') H ∧ hO1 D ad (n' : Int) (m' : Int) H ∧ hO2 D cT ad H ∧ hQs D cI ad σs' H ∧ cY D cI ad tl tx rd rp H) (zR ad 127 sz) := by
  refine Met.ofW (cc := cX7_unpick) (maxL := 4) (ret := (some .int)) (by decide) rfl ?_
  intro p_ e_ s m_ args below meth c_ s₁ B hml hv
  obtain ⟨rfl, hsz, hK, hF⟩ := hv
  have hx := B.exec
  have hb := B.bytes
  have hr := B.returns
  have hts := atoms_spec (ws := wsX7_unpick) B.pre
  have hown : s.vm.findClass RX7 = some m_.cls := findClass_of_methodNamed B.named
  have hlocks := B.notSynchronized
  have S : CallFix p_ m_ c_ cX7_unpick 4 s _ wsX7_unpick RX7 := ⟨hx, hb, hml, hown, hts⟩
  have i_X7 : ∀ w ∈ u_ws RX7 TX7 4, w ∈ wsX7_unpick := fun _ h => List.mem_cons_of_mem _ (List.mem_append_left _ (List.mem_append_left _ (List.mem_append_left _ (List.mem_append_left _ (List.mem_append_left _ (List.mem_append_right _ h))))))
  have i_X4 : ∀ w ∈ u_ws RX4 TX4 9, w ∈ wsX7_unpick := fun _ h => List.mem_cons_of_mem _ (List.mem_append_left _ (List.mem_append_left _ (List.mem_append_left _ (List.mem_append_left _ (List.mem_append_right _ h)))))
  have i_X6 : ∀ w ∈ u_ws RX6 TX6 9, w ∈ wsX7_unpick := fun _ h => List.mem_cons_of_mem _ (List.mem_append_left _ (List.mem_append_left _ (List.mem_append_left _ (List.mem_append_right _ h))))
  subst hsz
  generalize hAe : (zR ad 127 s.heap.size) = A
  have hAn : ∀ q : Nat, s.heap.size ≤ q → A q := fun q h => by rw [← hAe]; exact Or.inr h
  obtain ⟨H, hHe⟩ : ∃ H : Heap, H = s.heap := ⟨_, rfl⟩
  rw [← hHe] at hF ⊢
  have hS : va_S A s.heap H [] := by rw [hHe]; exact va_S.rf
  obtain ⟨hP, hH1, hH2, hQ, hY⟩ := hF
  have hA7 : ∀ k : Nat, k < 127 → A (ad k) := fun k hk => by rw [← hAe]; exact Or.inl ⟨k, hk, rfl⟩
  have hAin : ∀ k : Nat, k < 20 → A (ad k) := fun k hk => hA7 k (by omega)
  have hJ : zJ ad 20 := zJ_le hJ7 (by decide)
  have hnC := iv_nC hI
  have hl := lv_entry ([.ref (ad 120), .int (zI (c))]) (n := 4) (Nat.le_of_ble_eq_true rfl)
  rw [lg_entry_eq]
  generalize (lg_sl ([.ref (ad 120), .int (zI (c))]) ++ List.replicate (4 - (lg_sl ([.ref (ad 120), .int (zI (c))])).length) Slot.unset).toArray = ls at hl ⊢
  have hl : lv_has ls 4 [(0, .ref (ad 120)), (1, .int (zI (c)))] := hl
  refine lv_aload_n (pc := 0) hx hb dX7_unpick_0 rfl (lv_at hl 0 rfl) ?_
  refine zr_get (pc := 1) S hK hY.1 rfl i_X7 0 (by decide) (List.mem_of_getElem? (i := 1) rfl) rfl dX7_unpick_1 ?_
  refine zr_get (pc := 4) S hK (hP 0 (by decide)) rfl i_X4 0 (by decide) (List.mem_of_getElem? (i := 2) rfl) rfl dX7_unpick_4 ?_
  refine lv_iload_n (pc := 7) hx hb dX7_unpick_7 rfl (lv_at hl 1 rfl) ?_
  refine zr_vi (pc := 8) (As := [.int (zI (c))]) (rest := []) S (ct_X6_has l D cI cT ad σ g hR hI c (by omega)) (cwV 1 hts gX7_unpick_X6_has rfl rfl rfl (by decide +kernel) ⟨Nat.le_of_ble_eq_true rfl, Nat.le_of_ble_eq_true rfl⟩) zs0 hK hP (zr_recv hK (hP 1 (by decide)) rfl) rfl hl.1 rfl (Nat.le_of_ble_eq_true rfl) dX7_unpick_8 ⟨Nat.le_of_ble_eq_true rfl, Nat.le_of_ble_eq_true rfl⟩ (fun r_8 hr_8 => ?_)
  rcases hr_8 with ⟨hb_8, rfl⟩ | ⟨hb_8, rfl⟩
  · refine zr_if_ne (pc := 11) (tgt := 18) hx hb dX7_unpick_11 (by decide) (by decide) (fun _ => ?_) (fun z => absurd z (by decide))
    have hna := iv_na hI (c := c) (by omega) (by omega)
    refine lv_aload_n (pc := 18) hx hb dX7_unpick_18 rfl (lv_at hl 0 rfl) ?_
    refine zr_get (pc := 19) S hK hY.1 rfl i_X7 0 (by decide) (List.mem_of_getElem? (i := 1) rfl) rfl dX7_unpick_19 ?_
    refine lv_iload_n (pc := 22) hx hb dX7_unpick_22 rfl (lv_at hl 1 rfl) ?_
    refine zr_vi (pc := 23) (As := [.int (zI (c))]) (rest := []) S (ct_X4_isAway l D cI cT ad σ g hR hI c (by omega) (by omega)) (cwV 1 hts gX7_unpick_X4_isAway rfl rfl rfl (by decide +kernel) ⟨Nat.le_of_ble_eq_true rfl, Nat.le_of_ble_eq_true rfl⟩) zs0 hK hP (zr_recv hK (hP 0 (by decide)) rfl) rfl hl.1 rfl (Nat.le_of_ble_eq_true rfl) dX7_unpick_23 ⟨Nat.le_of_ble_eq_true rfl, Nat.le_of_ble_eq_true rfl⟩ (fun r_23 hr_23 => ?_)
    rcases hr_23 with ⟨hb_23, rfl⟩ | ⟨hb_23, rfl⟩
    · refine zr_if_ne (pc := 26) (tgt := 46) hx hb dX7_unpick_26 (by decide) (by decide) (fun _ => ?_) (fun z => absurd z (by decide))
      refine lv_sipush (pc := 46) (v := zI (-2002)) hx hb dX7_unpick_46 zc_sipush_m2002 ?_
      exact W.iret (v := zI ((-2002))) hx hb hr (fun tz ht hW => ⟨⟨zI ((-2002)), zI ((-2002)), rfl, rfl, by dsimp only; rw [ht]; exact ⟨_, _, _, _, _, _, ⟨hR, hC, hn, hm⟩, oR_no ((tft (by omega)).trans (tff (fun q => by first | exact q.1 hb_23 | (have q2 := q.2; omega)))) (by decide), hP, hH1, hH2, hQ, hY⟩⟩, hS.F ht⟩) hS.2.2 dX7_unpick_49
    · refine zr_if_ne (pc := 26) (tgt := 46) hx hb dX7_unpick_26 (by decide) (by decide) (fun z => absurd z (by decide)) (fun _ => ?_)
      refine lv_aload_n (pc := 29) hx hb dX7_unpick_29 rfl (lv_at hl 0 rfl) ?_
      refine zr_get (pc := 30) S hK hY.1 rfl i_X7 0 (by decide) (List.mem_of_getElem? (i := 1) rfl) rfl dX7_unpick_30 ?_
      refine zr_get (pc := 33) S hK (hP 0 (by decide)) rfl i_X4 0 (by decide) (List.mem_of_getElem? (i := 2) rfl) rfl dX7_unpick_33 ?_
      refine zr_get (pc := 36) S hK (hP 1 (by decide)) rfl i_X6 6 (by decide) (List.mem_of_getElem? (i := 3) rfl) rfl dX7_unpick_36 ?_
      refine lv_iload_n (pc := 39) hx hb dX7_unpick_39 rfl (lv_at hl 1 rfl) ?_
      refine zr_si (pc := 40) (As := [.ref (ad 10), .int (zI (c))]) (rest := []) S (ct_X7_at l D cI cT (ad 10) 16 _ c (gC g c 7) (by decide) (by omega) (by omega) (rl_na hR (by omega) (by omega)) (by omega)) (va_cwS 2 hts gX7_unpick_X7_at rfl rfl rfl (by decide +kernel) ⟨Nat.le_of_ble_eq_true rfl, Nat.le_of_ble_eq_true rfl⟩) zs_ar hK (zAr_of (zK_int hK) (hP 10 (by decide))) rfl hl.1 rfl (Nat.le_of_ble_eq_true rfl) dX7_unpick_40 ⟨Nat.le_of_ble_eq_true rfl, Nat.le_of_ble_eq_true rfl⟩ (fun r_40 hr_40 => ?_)
      subst hr_40
      refine zr_if_gt (pc := 43) (tgt := 50) hx hb dX7_unpick_43 (by decide) (by omega) (fun c_43 => ?_) (fun c_43 => ?_)
      · have hac := iv_ac hI (c := c) (k := gC g c 7 - 1) (by omega) (by omega) (by omega) (by omega)
        refine lv_aload_n (pc := 50) hx hb dX7_unpick_50 rfl (lv_at hl 0 rfl) ?_
        refine zr_get (pc := 51) S hK hY.1 rfl i_X7 1 (by decide) (List.mem_of_getElem? (i := 4) rfl) rfl dX7_unpick_51 ?_
        refine lv_aload_n (pc := 54) hx hb dX7_unpick_54 rfl (lv_at hl 0 rfl) ?_
        refine zr_get (pc := 55) S hK hY.1 rfl i_X7 0 (by decide) (List.mem_of_getElem? (i := 1) rfl) rfl dX7_unpick_55 ?_
        refine zr_vwv (pc := 58) (As := [.ref (ad 0)]) (rest := []) S (ct_X2_remember l D cI cT H.size ad σ σs n m hn hm hJ7) (cwV 1 hts gX7_unpick_X2_remember rfl rfl rfl (by decide +kernel) ⟨Nat.le_of_ble_eq_true rfl, Nat.le_of_ble_eq_true rfl⟩) zs0 hK ⟨hP, hH1, hH2, hQ⟩ (zr_recv hK hH1 rfl) hS (fun q h => h.elim (fun z => z.elim (fun e => by rw [e]; exact hA7 125 (by decide)) (fun ⟨j, k, hj, hk, e⟩ => by rw [e]; exact hA7 _ (by omega))) (fun z => hAn q (Nat.le_trans hS.1 z))) rfl hl.1 rfl (Nat.le_of_ble_eq_true rfl) dX7_unpick_58 ⟨Nat.le_of_ble_eq_true rfl, Nat.le_of_ble_eq_true rfl⟩ (fun H locs hG hz hk hS => ?_)
        obtain ⟨hH1, hH2, hQ⟩ := hG
        have hP := hP.keep hk (fun k k0 z => z.elim (fun z => z.elim (fun e => absurd (hJ7 k 125 (by omega) (by decide) e) (by omega)) (fun ⟨j, i, hj, hi, e⟩ => hd_ne hJ7 hj hi (by omega) (by omega) e.symm)) (fun y => absurd (hP.lt k0) (Nat.not_lt.mpr y)))
        have hY := hY.keep hk (fun k k0 k1 hlt z => z.elim (fun z => z.elim (fun e => absurd (hJ7 k 125 (by omega) (by decide) e) (by omega)) (fun ⟨j, i, hj, hi, e⟩ => hd_ne hJ7 hj hi (by omega) (by omega) e.symm)) (fun y => absurd hlt (Nat.not_lt.mpr y)))
        have hC := cH_push hC hn hm (rel_cp (σ := σs m) hR)
        rw [hpN_i n hn, nx_i m hm] at hH1
        refine lv_aload_n (pc := 61) hx hb dX7_unpick_61 rfl (lv_at hl 0 rfl) ?_
        refine zr_get (pc := 62) S hK hY.1 rfl i_X7 0 (by decide) (List.mem_of_getElem? (i := 1) rfl) rfl dX7_unpick_62 ?_
        refine zr_get (pc := 65) S hK (hP 0 (by decide)) rfl i_X4 0 (by decide) (List.mem_of_getElem? (i := 2) rfl) rfl dX7_unpick_65 ?_
        refine lv_iload_n (pc := 68) hx hb dX7_unpick_68 rfl (lv_at hl 1 rfl) ?_
        refine zr_vwi (pc := 69) (As := [.int (zI (c))]) (rest := []) S (ct_X6_removeAlteration l D cI cT H.size ad σ g hR hI hJ c (by omega) (by omega) (by omega)) (cwV 1 hts gX7_unpick_X6_removeAlteration rfl rfl rfl (by decide +kernel) ⟨Nat.le_of_ble_eq_true rfl, Nat.le_of_ble_eq_true rfl⟩) zs0 hK hP (zr_recv hK (hP 1 (by decide)) rfl) hS (fun q h => h.elim (fun ⟨k, k0, e⟩ => by rw [e]; exact hAin k k0) (fun z => hAn q (Nat.le_trans hS.1 z))) rfl hl.1 rfl (Nat.le_of_ble_eq_true rfl) dX7_unpick_69 ⟨Nat.le_of_ble_eq_true rfl, Nat.le_of_ble_eq_true rfl⟩ (fun r_69 H locs hG hz hk hS => ?_)
        have hH1 := hH1.kept (hk _ hH1.lt (fun z => z.elim (fun ⟨i, i0, e⟩ => absurd (hJ7 125 i (by decide) (by omega) e) (by omega)) (fun y => absurd hH1.lt (Nat.not_lt.mpr y))))
        have hH2 := hH2.kept (hk _ hH2.lt (fun z => z.elim (fun ⟨i, i0, e⟩ => absurd (hJ7 126 i (by decide) (by omega) e) (by omega)) (fun y => absurd hH2.lt (Nat.not_lt.mpr y))))
        have hQ : hQs D cI ad _ H := fun j hj => (hQ j hj).keep hk (fun k k0 z => z.elim (fun ⟨i, i0, e⟩ => hd_ne hJ7 hj k0 (by omega) (by omega) e) (fun y => absurd ((hQ j hj).lt k0) (Nat.not_lt.mpr y)))
        have hY := hY.keep hk (fun k k0 k1 hlt z => z.elim (fun ⟨i, i0, e⟩ => absurd (hJ7 k i (by omega) (by omega) e) (by omega)) (fun y => absurd hlt (Nat.not_lt.mpr y)))
        obtain ⟨rfl, σ26, hR26, hP⟩ := hG
        have s4 : zu g (12 + 20 * c + 7) (gC g c 7 - 1) 4 = g 4 := zu_n (by omega)
        refine lv_istore_n (pc := 72) (lv' := [(2, .int (zI (gX g c (gC g c 7 - 1)))), (0, .ref (ad 120)), (1, .int (zI (c)))]) hx hb dX7_unpick_72 rfl hl (by decide) rfl (fun ls hl => ?_)
        refine lv_iconst (pc := 73) (v := zI 5) hx hb dX7_unpick_73 rfl ?_
        refine lv_iconst (pc := 74) (v := zI 2) hx hb dX7_unpick_74 rfl ?_
        refine lv_iload_n (pc := 75) hx hb dX7_unpick_75 rfl (lv_at hl 0 rfl) ?_
        refine zr_mabs (pc := 76) hx hb (hml.trans hl.1.symm) hown (hts _ (List.mem_of_getElem? (i := 5) rfl)) (hts _ (List.mem_of_getElem? (i := 6) rfl)) (hts _ (List.mem_of_getElem? (i := 7) rfl)) (hts _ (List.mem_of_getElem? (i := 8) rfl)) (Nat.le_of_ble_eq_true rfl) (Nat.le_of_ble_eq_true rfl) (Nat.le_of_ble_eq_true rfl) (Nat.le_of_ble_eq_true rfl) dX7_unpick_76 (by omega) (rfl : _ = zabs (gX g c (gC g c 7 - 1))) ?_
        refine zr_imul (pc := 79) (d := 2 * (zabs (gX g c (gC g c 7 - 1)))) hx hb dX7_unpick_79 rfl ?_
        refine zr_iadd (pc := 80) (d := 5 + (2 * (zabs (gX g c (gC g c 7 - 1))))) hx hb dX7_unpick_80 rfl ?_
        refine lv_istore_n (pc := 81) (lv' := [(3, .int (zI (5 + (2 * (zabs (gX g c (gC g c 7 - 1))))))), (2, .int (zI (gX g c (gC g c 7 - 1)))), (0, .ref (ad 120)), (1, .int (zI (c)))]) hx hb dX7_unpick_81 rfl hl (by decide) rfl (fun ls hl => ?_)
        refine lv_aload_n (pc := 82) hx hb dX7_unpick_82 rfl (lv_at hl 2 rfl) ?_
        refine zr_get (pc := 83) S hK hY.1 rfl i_X7 0 (by decide) (List.mem_of_getElem? (i := 1) rfl) rfl dX7_unpick_83 ?_
        refine lv_dup (pc := 86) hx hb dX7_unpick_86 rfl ?_
        refine zr_get (pc := 87) S hK (hP 0 (by decide)) rfl i_X4 5 (by decide) (List.mem_of_getElem? (i := 9) rfl) rfl dX7_unpick_87 ?_
        refine zr_top (b := (zu g (12 + 20 * c + 7) (gC g c 7 - 1)) 4) (rl_mi hR26) ?_
        refine lv_iload_n (pc := 90) hx hb dX7_unpick_90 rfl (lv_at hl 0 rfl) ?_
        refine zr_iadd (pc := 91) (d := ((zu g (12 + 20 * c + 7) (gC g c 7 - 1)) 4) + (5 + (2 * (zabs (gX g c (gC g c 7 - 1)))))) hx hb dX7_unpick_91 rfl ?_
        refine zr_put (pc := 92) S hK (hP 0 (by decide)) rfl i_X4 tyX4 tyX4_ok nmX4 5 (by decide) (List.mem_of_getElem? (i := 9) rfl) rfl rfl rfl (Nat.le_of_ble_eq_true rfl) hS (hAin 0 (by decide)) dX7_unpick_92 (fun H locs hO hz hk hS => ?_)
        have hkk := fun (q : Nat) (h : _) (z : q ≠ ad 0) => hk q h z
        have hH1 := hH1.kept (hkk _ hH1.lt (fun e => absurd (hJ7 125 0 (by decide) (by decide) e) (by decide)))
        have hH2 := hH2.kept (hkk _ hH2.lt (fun e => absurd (hJ7 126 0 (by decide) (by decide) e) (by decide)))
        have hQ : hQs D cI ad _ H := fun j hj => (hQ j hj).keep (A1 := fun q => q = ad 0) (fun q h z => hkk q h z) (fun k k0 e => hd_ne hJ7 hj k0 (by decide) (by omega) e)
        have hY := hY.keep (A := fun q => q = ad 0) (fun q h z => hkk q h z) (fun k k0 k1 _ e => absurd (hJ7 k 0 (by omega) (by decide) e) (by omega))
        have hP := zW.put hP hJ 0 (by decide) hO hk (sC_0_1 (((zu g (12 + 20 * c + 7) (gC g c 7 - 1)) 4) + (5 + (2 * (zabs (gX g c (gC g c 7 - 1)))))))
        refine lv_iload_n (pc := 95) hx hb dX7_unpick_95 rfl (lv_at hl 0 rfl) ?_
        exact W.iret (v := zI (5 + (2 * (zabs (gX g c (gC g c 7 - 1)))))) hx hb hr (fun tz ht hW => ⟨⟨zI (5 + (2 * (zabs (gX g c (gC g c 7 - 1))))), zI (5 + (2 * (zabs (gX g c (gC g c 7 - 1))))), rfl, rfl, by dsimp only; rw [ht]; exact ⟨_, _, _, _, _, _, ⟨rel_mi hR26 (inv_cnt (by omega) (by omega) (by omega) (Or.inl (by omega)) hI), hC, hpN_le n, Nat.mod_lt _ (by decide)⟩, oR_ok ((tft (by omega)).trans (tft ⟨hb_23, by omega⟩)) (rfl) (by rw [s4]), hP, hH1, hH2, hQ, hY⟩⟩, hS.F ht⟩) hS.2.2 dX7_unpick_96
      · refine lv_sipush (pc := 46) (v := zI (-2002)) hx hb dX7_unpick_46 zc_sipush_m2002 ?_
        exact W.iret (v := zI ((-2002))) hx hb hr (fun tz ht hW => ⟨⟨zI ((-2002)), zI ((-2002)), rfl, rfl, by dsimp only; rw [ht]; exact ⟨_, _, _, _, _, _, ⟨hR, hC, hn, hm⟩, oR_no ((tft (by omega)).trans (tff (fun q => by first | exact q.1 hb_23 | (have q2 := q.2; omega)))) (by decide), hP, hH1, hH2, hQ, hY⟩⟩, hS.F ht⟩) hS.2.2 dX7_unpick_49
  · refine zr_if_ne (pc := 11) (tgt := 18) hx hb dX7_unpick_11 (by decide) (by decide) (fun z => absurd z (by decide)) (fun _ => ?_)
    refine lv_sipush (pc := 14) (v := zI (-2001)) hx hb dX7_unpick_14 zc_sipush_m2001 ?_
    exact W.iret (v := zI ((-2001))) hx hb hr (fun tz ht hW => ⟨⟨zI ((-2001)), zI ((-2001)), rfl, rfl, by dsimp only; rw [ht]; exact ⟨_, _, _, _, _, _, ⟨hR, hC, hn, hm⟩, oR_no (tff (fun q => by omega)) (by decide), hP, hH1, hH2, hQ, hY⟩⟩, hS.F ht⟩) hS.2.2 dX7_unpick_17
