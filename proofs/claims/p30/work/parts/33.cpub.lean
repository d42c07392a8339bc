set_option maxHeartbeats 4000000 in
set_option maxRecDepth 100000 in
theorem ct_X7_addCostume (l : Launch) (D : va_G) (cI cT : ClassId) (sz : Nat) (ad : Nat → Nat) (σ : Nat → Int → Int) (g : Int → Int) (hR : Rel σ g) (hI : Inv g) (σs : Nat → Nat → Int → Int) (n m : Nat) (hs : Nat → Int → Int) (tl : Int) (tx rd rp : Int → Int) (hn : n ≤ 5) (hm : m < 5) (hC : cH σs n m hs) (hJ7 : zJ ad 127) (a : Int) (b : Int) (c : Int) (d : Int) (e : Int) (r_a : -2147483648 ≤ a ∧ a ≤ 2147483647) (r_b : -2147483648 ≤ b ∧ b ≤ 2147483647) (r_c : -2147483648 ≤ c ∧ c ≤ 2147483647) (r_d : -2147483648 ≤ d ∧ d ≤ 2147483647) (r_e : -2147483648 ≤ e ∧ e ≤ 2147483647) : zMi l yX7_addCostume wsX7_addCostume ({ frames := 5, cells := 0, slots := 0, locals := 115 }) D cI cT [.ref (ad 120), .int (zI (a)), .int (zI (b)), .int (zI (c)), .int (zI (d)), .int (zI (e))] sz (fun _ H => zW D ad 20 (sC cI ad σ) H ∧ hO1 D ad (n : Int) (m : Int) H ∧ hO2 D cT ad H ∧ hQs D cI ad σs H ∧ cY D cI ad tl tx rd rp H) (fun rr H => ∃ (σ' : Nat → Int → Int) (σs' : Nat → Nat → Int → Int) (g' : Int → Int) (n' m' : Nat) (hs' : Nat → Int → Int), (Rel σ' g' ∧ cH σs' n' m' hs' ∧ n' ≤ 5 ∧ m' < 5) ∧ oR (eAddC g a b c d e) (g 0) (mkC g a b c d e 0) g n hs g' n' hs' rr ∧ zW D ad 20 (sC cI ad σ') H ∧ hO1 D ad (n' : Int) (m' : Int) H ∧ hO2 D cT ad H ∧ hQs D cI ad σs' H ∧ cY D cI ad tl tx rd rp H) (zR ad 127 sz) := by
  refine Met.ofW (cc := cX7_addCostume) (maxL := 6) (ret := (some .int)) (by decide) rfl ?_
  intro p_ e_ s m_ args below meth c_ s₁ B hml hv
  obtain ⟨rfl, hsz, hK, hF⟩ := hv
  have hx := B.exec
  have hb := B.bytes
  have hr := B.returns
  have hts := atoms_spec (ws := wsX7_addCostume) B.pre
  have hown : s.vm.findClass RX7 = some m_.cls := findClass_of_methodNamed B.named
  have hlocks := B.notSynchronized
  have S : CallFix p_ m_ c_ cX7_addCostume 6 s _ wsX7_addCostume RX7 := ⟨hx, hb, hml, hown, hts⟩
  have i_X7 : ∀ w ∈ u_ws RX7 TX7 4, w ∈ wsX7_addCostume := fun _ h => List.mem_cons_of_mem _ (List.mem_append_left _ (List.mem_append_left _ (List.mem_append_left _ (List.mem_append_left _ (List.mem_append_left _ (List.mem_append_right _ h))))))
  have i_X4 : ∀ w ∈ u_ws RX4 TX4 9, w ∈ wsX7_addCostume := fun _ h => List.mem_cons_of_mem _ (List.mem_append_left _ (List.mem_append_left _ (List.mem_append_left _ (List.mem_append_left _ (List.mem_append_right _ h)))))
  have i_X6 : ∀ w ∈ u_ws RX6 TX6 9, w ∈ wsX7_addCostume := fun _ h => List.mem_cons_of_mem _ (List.mem_append_left _ (List.mem_append_left _ (List.mem_append_left _ (List.mem_append_right _ h))))
  subst hsz
  generalize hAe : (zR ad 127 s.heap.size) = A
  have hAn : ∀ q : Nat, s.heap.size ≤ q → A q := fun q h => by rw [← hAe]; exact Or.inr h
  obtain ⟨H, hHe⟩ : ∃ H : Heap, H = s.heap := ⟨_, rfl⟩
  rw [← hHe] at hF ⊢
  have hS : va_S A s.heap H [] := by rw [hHe]; exact va_S.rf
  obtain ⟨hP, hH1, hH2, hQ, hY⟩ := hF
  have hA7 : ∀ k : Nat, k < 127 → A (ad k) := fun k hk => by rw [← hAe]; exact Or.inl ⟨k, hk, rfl⟩
  have hAin : ∀ k : Nat, k < 20 → A (ad k) := fun k hk => hA7 k (by omega)
  have hJ : zJ ad 20 := zJ_le hJ7 (by decide)
  have hnC := iv_nC hI
  have hl := lv_entry ([.ref (ad 120), .int (zI (a)), .int (zI (b)), .int (zI (c)), .int (zI (d)), .int (zI (e))]) (n := 6) (Nat.le_of_ble_eq_true rfl)
  rw [lg_entry_eq]
  generalize (lg_sl ([.ref (ad 120), .int (zI (a)), .int (zI (b)), .int (zI (c)), .int (zI (d)), .int (zI (e))]) ++ List.replicate (6 - (lg_sl ([.ref (ad 120), .int (zI (a)), .int (zI (b)), .int (zI (c)), .int (zI (d)), .int (zI (e))])).length) Slot.unset).toArray = ls at hl ⊢
  have hl : lv_has ls 6 [(0, .ref (ad 120)), (1, .int (zI (a))), (2, .int (zI (b))), (3, .int (zI (c))), (4, .int (zI (d))), (5, .int (zI (e)))] := hl
  refine lv_iload_n (pc := 0) hx hb dX7_addCostume_0 rfl (lv_at hl 1 rfl) ?_
  refine lv_iload_n (pc := 1) hx hb dX7_addCostume_1 rfl (lv_at hl 2 rfl) ?_
  refine lv_iload_n (pc := 2) hx hb dX7_addCostume_2 rfl (lv_at hl 3 rfl) ?_
  refine zr_si (pc := 3) (As := [.int (zI (a)), .int (zI (b)), .int (zI (c))]) (rest := []) S (ct_X7_areMeasures l D cI cT a b c (by omega) (by omega) (by omega)) (va_cwS 3 hts gX7_addCostume_X7_areMeasures rfl rfl rfl (by decide +kernel) ⟨Nat.le_of_ble_eq_true rfl, Nat.le_of_ble_eq_true rfl⟩) zs0 hK trivial rfl hl.1 rfl (Nat.le_of_ble_eq_true rfl) dX7_addCostume_3 ⟨Nat.le_of_ble_eq_true rfl, Nat.le_of_ble_eq_true rfl⟩ (fun r_3 hr_3 => ?_)
  rcases hr_3 with ⟨hb_3, rfl⟩ | ⟨hb_3, rfl⟩
  · refine zr_if_eq (pc := 6) (tgt := 30) hx hb dX7_addCostume_6 (by decide) (by decide) (fun z => absurd z (by decide)) (fun _ => ?_)
    refine lv_iload (pc := 9) hx hb dX7_addCostume_9 (lv_at hl 4 rfl) ?_
    refine lv_iconst (pc := 11) (v := zI 0) hx hb dX7_addCostume_11 rfl ?_
    refine lv_bipush (pc := 12) (v := zI 8) hx hb dX7_addCostume_12 zc_bipush_8 ?_
    refine zr_si (pc := 14) (As := [.int (zI (d)), .int (zI (0)), .int (zI (8))]) (rest := []) S (ct_X7_isWithin l D cI cT d 0 8 (by omega) (by decide) (by decide)) (va_cwS 3 hts gX7_addCostume_X7_isWithin rfl rfl rfl (by decide +kernel) ⟨Nat.le_of_ble_eq_true rfl, Nat.le_of_ble_eq_true rfl⟩) zs0 hK trivial rfl hl.1 rfl (Nat.le_of_ble_eq_true rfl) dX7_addCostume_14 ⟨Nat.le_of_ble_eq_true rfl, Nat.le_of_ble_eq_true rfl⟩ (fun r_14 hr_14 => ?_)
    rcases hr_14 with ⟨hb_14, rfl⟩ | ⟨hb_14, rfl⟩
    · refine zr_if_eq (pc := 17) (tgt := 30) hx hb dX7_addCostume_17 (by decide) (by decide) (fun z => absurd z (by decide)) (fun _ => ?_)
      refine lv_iload (pc := 20) hx hb dX7_addCostume_20 (lv_at hl 5 rfl) ?_
      refine lv_iconst (pc := 22) (v := zI 0) hx hb dX7_addCostume_22 rfl ?_
      refine lv_iconst (pc := 23) (v := zI 3) hx hb dX7_addCostume_23 rfl ?_
      refine zr_si (pc := 24) (As := [.int (zI (e)), .int (zI (0)), .int (zI (3))]) (rest := []) S (ct_X7_isWithin l D cI cT e 0 3 (by omega) (by decide) (by decide)) (va_cwS 3 hts gX7_addCostume_X7_isWithin rfl rfl rfl (by decide +kernel) ⟨Nat.le_of_ble_eq_true rfl, Nat.le_of_ble_eq_true rfl⟩) zs0 hK trivial rfl hl.1 rfl (Nat.le_of_ble_eq_true rfl) dX7_addCostume_24 ⟨Nat.le_of_ble_eq_true rfl, Nat.le_of_ble_eq_true rfl⟩ (fun r_24 hr_24 => ?_)
      rcases hr_24 with ⟨hb_24, rfl⟩ | ⟨hb_24, rfl⟩
      · refine zr_if_ne (pc := 27) (tgt := 34) hx hb dX7_addCostume_27 (by decide) (by decide) (fun _ => ?_) (fun z => absurd z (by decide))
        refine lv_aload_n (pc := 34) hx hb dX7_addCostume_34 rfl (lv_at hl 0 rfl) ?_
        refine zr_get (pc := 35) S hK hY.1 rfl i_X7 0 (by decide) (List.mem_of_getElem? (i := 1) rfl) rfl dX7_addCostume_35 ?_
        refine zr_get (pc := 38) S hK (hP 0 (by decide)) rfl i_X4 0 (by decide) (List.mem_of_getElem? (i := 2) rfl) rfl dX7_addCostume_38 ?_
        refine zr_get (pc := 41) S hK (hP 1 (by decide)) rfl i_X6 0 (by decide) (List.mem_of_getElem? (i := 3) rfl) rfl dX7_addCostume_41 ?_
        refine zr_top (b := g 0) (rl_nC hR) ?_
        refine lv_bipush (pc := 44) (v := zI 16) hx hb dX7_addCostume_44 zc_bipush_16 ?_
        refine zr_icmp_lt (pc := 46) (tgt := 53) hx hb dX7_addCostume_46 (by decide) (by omega) (by decide) (fun c_46 => ?_) (fun c_46 => ?_)
        · refine lv_aload_n (pc := 53) hx hb dX7_addCostume_53 rfl (lv_at hl 0 rfl) ?_
          refine zr_get (pc := 54) S hK hY.1 rfl i_X7 1 (by decide) (List.mem_of_getElem? (i := 4) rfl) rfl dX7_addCostume_54 ?_
          refine lv_aload_n (pc := 57) hx hb dX7_addCostume_57 rfl (lv_at hl 0 rfl) ?_
          refine zr_get (pc := 58) S hK hY.1 rfl i_X7 0 (by decide) (List.mem_of_getElem? (i := 1) rfl) rfl dX7_addCostume_58 ?_
          refine zr_vwv (pc := 61) (As := [.ref (ad 0)]) (rest := []) S (ct_X2_remember l D cI cT H.size ad σ σs n m hn hm hJ7) (cwV 1 hts gX7_addCostume_X2_remember rfl rfl rfl (by decide +kernel) ⟨Nat.le_of_ble_eq_true rfl, Nat.le_of_ble_eq_true rfl⟩) zs0 hK ⟨hP, hH1, hH2, hQ⟩ (zr_recv hK hH1 rfl) hS (fun q h => h.elim (fun z => z.elim (fun e => by rw [e]; exact hA7 125 (by decide)) (fun ⟨j, k, hj, hk, e⟩ => by rw [e]; exact hA7 _ (by omega))) (fun z => hAn q (Nat.le_trans hS.1 z))) rfl hl.1 rfl (Nat.le_of_ble_eq_true rfl) dX7_addCostume_61 ⟨Nat.le_of_ble_eq_true rfl, Nat.le_of_ble_eq_true rfl⟩ (fun H locs hG hz hk hS => ?_)
          obtain ⟨hH1, hH2, hQ⟩ := hG
          have hP := hP.keep hk (fun k k0 z => z.elim (fun z => z.elim (fun e => absurd (hJ7 k 125 (by omega) (by decide) e) (by omega)) (fun ⟨j, i, hj, hi, e⟩ => hd_ne hJ7 hj hi (by omega) (by omega) e.symm)) (fun y => absurd (hP.lt k0) (Nat.not_lt.mpr y)))
          have hY := hY.keep hk (fun k k0 k1 hlt z => z.elim (fun z => z.elim (fun e => absurd (hJ7 k 125 (by omega) (by decide) e) (by omega)) (fun ⟨j, i, hj, hi, e⟩ => hd_ne hJ7 hj hi (by omega) (by omega) e.symm)) (fun y => absurd hlt (Nat.not_lt.mpr y)))
          have hC := cH_push hC hn hm (rel_cp (σ := σs m) hR)
          rw [hpN_i n hn, nx_i m hm] at hH1
          refine lv_aload_n (pc := 64) hx hb dX7_addCostume_64 rfl (lv_at hl 0 rfl) ?_
          refine zr_get (pc := 65) S hK hY.1 rfl i_X7 0 (by decide) (List.mem_of_getElem? (i := 1) rfl) rfl dX7_addCostume_65 ?_
          refine zr_get (pc := 68) S hK (hP 0 (by decide)) rfl i_X4 0 (by decide) (List.mem_of_getElem? (i := 2) rfl) rfl dX7_addCostume_68 ?_
          refine lv_iload_n (pc := 71) hx hb dX7_addCostume_71 rfl (lv_at hl 1 rfl) ?_
          refine lv_iload_n (pc := 72) hx hb dX7_addCostume_72 rfl (lv_at hl 2 rfl) ?_
          refine lv_iload_n (pc := 73) hx hb dX7_addCostume_73 rfl (lv_at hl 3 rfl) ?_
          refine lv_iload (pc := 74) hx hb dX7_addCostume_74 (lv_at hl 4 rfl) ?_
          refine lv_iload (pc := 76) hx hb dX7_addCostume_76 (lv_at hl 5 rfl) ?_
          refine lv_iconst (pc := 78) (v := zI 0) hx hb dX7_addCostume_78 rfl ?_
          refine zr_vwi (pc := 79) (As := [.int (zI (a)), .int (zI (b)), .int (zI (c)), .int (zI (d)), .int (zI (e)), .int (zI (0))]) (rest := []) S (ct_X6_add l D cI cT H.size ad σ g hR hI hJ a b c d e 0 (by omega)) (cwV 6 hts gX7_addCostume_X6_add rfl rfl rfl (by decide +kernel) ⟨Nat.le_of_ble_eq_true rfl, Nat.le_of_ble_eq_true rfl⟩) zs0 hK hP (zr_recv hK (hP 1 (by decide)) rfl) hS (fun q h => h.elim (fun ⟨k, k0, e⟩ => by rw [e]; exact hAin k k0) (fun z => hAn q (Nat.le_trans hS.1 z))) rfl hl.1 rfl (Nat.le_of_ble_eq_true rfl) dX7_addCostume_79 ⟨Nat.le_of_ble_eq_true rfl, Nat.le_of_ble_eq_true rfl⟩ (fun r_79 H locs hG hz hk hS => ?_)
          have hH1 := hH1.kept (hk _ hH1.lt (fun z => z.elim (fun ⟨i, i0, e⟩ => absurd (hJ7 125 i (by decide) (by omega) e) (by omega)) (fun y => absurd hH1.lt (Nat.not_lt.mpr y))))
          have hH2 := hH2.kept (hk _ hH2.lt (fun z => z.elim (fun ⟨i, i0, e⟩ => absurd (hJ7 126 i (by decide) (by omega) e) (by omega)) (fun y => absurd hH2.lt (Nat.not_lt.mpr y))))
          have hQ : hQs D cI ad _ H := fun j hj => (hQ j hj).keep hk (fun k k0 z => z.elim (fun ⟨i, i0, e⟩ => hd_ne hJ7 hj k0 (by omega) (by omega) e) (fun y => absurd ((hQ j hj).lt k0) (Nat.not_lt.mpr y)))
          have hY := hY.keep hk (fun k k0 k1 hlt z => z.elim (fun ⟨i, i0, e⟩ => absurd (hJ7 k i (by omega) (by omega) e) (by omega)) (fun y => absurd hlt (Nat.not_lt.mpr y)))
          obtain ⟨rfl, σ17, hR17, hP⟩ := hG
          exact W.iret (v := zI (g 0)) hx hb hr (fun tz ht hW => ⟨⟨zI (g 0), zI (g 0), rfl, rfl, by dsimp only; rw [ht]; exact ⟨_, _, _, _, _, _, ⟨hR17, hC, hpN_le n, Nat.mod_lt _ (by decide)⟩, oR_ok ((tft (by omega)).trans (tft (by omega))) (rfl) (rfl), hP, hH1, hH2, hQ, hY⟩⟩, hS.F ht⟩) hS.2.2 dX7_addCostume_82
        · refine lv_sipush (pc := 49) (v := zI (-2003)) hx hb dX7_addCostume_49 zc_sipush_m2003 ?_
          exact W.iret (v := zI ((-2003))) hx hb hr (fun tz ht hW => ⟨⟨zI ((-2003)), zI ((-2003)), rfl, rfl, by dsimp only; rw [ht]; exact ⟨_, _, _, _, _, _, ⟨hR, hC, hn, hm⟩, oR_no ((tft (by omega)).trans (tff (by omega))) (by decide), hP, hH1, hH2, hQ, hY⟩⟩, hS.F ht⟩) hS.2.2 dX7_addCostume_52
      · refine zr_if_ne (pc := 27) (tgt := 34) hx hb dX7_addCostume_27 (by decide) (by decide) (fun z => absurd z (by decide)) (fun _ => ?_)
        refine lv_sipush (pc := 30) (v := zI (-2001)) hx hb dX7_addCostume_30 zc_sipush_m2001 ?_
        exact W.iret (v := zI ((-2001))) hx hb hr (fun tz ht hW => ⟨⟨zI ((-2001)), zI ((-2001)), rfl, rfl, by dsimp only; rw [ht]; exact ⟨_, _, _, _, _, _, ⟨hR, hC, hn, hm⟩, oR_no (tff (fun q => by omega)) (by decide), hP, hH1, hH2, hQ, hY⟩⟩, hS.F ht⟩) hS.2.2 dX7_addCostume_33
    · refine zr_if_eq (pc := 17) (tgt := 30) hx hb dX7_addCostume_17 (by decide) (by decide) (fun _ => ?_) (fun z => absurd z (by decide))
      refine lv_sipush (pc := 30) (v := zI (-2001)) hx hb dX7_addCostume_30 zc_sipush_m2001 ?_
      exact W.iret (v := zI ((-2001))) hx hb hr (fun tz ht hW => ⟨⟨zI ((-2001)), zI ((-2001)), rfl, rfl, by dsimp only; rw [ht]; exact ⟨_, _, _, _, _, _, ⟨hR, hC, hn, hm⟩, oR_no (tff (fun q => by omega)) (by decide), hP, hH1, hH2, hQ, hY⟩⟩, hS.F ht⟩) hS.2.2 dX7_addCostume_33
  · refine zr_if_eq (pc := 6) (tgt := 30) hx hb dX7_addCostume_6 (by decide) (by decide) (fun _ => ?_) (fun z => absurd z (by decide))
    refine lv_sipush (pc := 30) (v := zI (-2001)) hx hb dX7_addCostume_30 zc_sipush_m2001 ?_
    exact W.iret (v := zI ((-2001))) hx hb hr (fun tz ht hW => ⟨⟨zI ((-2001)), zI ((-2001)), rfl, rfl, by dsimp only; rw [ht]; exact ⟨_, _, _, _, _, _, ⟨hR, hC, hn, hm⟩, oR_no (tff (fun q => by omega)) (by decide), hP, hH1, hH2, hQ, hY⟩⟩, hS.F ht⟩) hS.2.2 dX7_addCostume_33
set_option maxHeartbeats 4000000 in
set_option maxRecDepth 100000 in
theorem ct_X7_addActor (l : Launch) (D : va_G) (cI cT : ClassId) (sz : Nat) (ad : Nat → Nat) (σ : Nat → Int → Int) (g : Int → Int) (hR : Rel σ g) (hI : Inv g) (σs : Nat → Nat → Int → Int) (n m : Nat) (hs : Nat → Int → Int) (tl : Int) (tx rd rp : Int → Int) (hn : n ≤ 5) (hm : m < 5) (hC : cH σs n m hs) (hJ7 : zJ ad 127) (a : Int) (b : Int) (c : Int) (r_a : -2147483648 ≤ a ∧ a ≤ 2147483647) (r_b : -2147483648 ≤ b ∧ b ≤ 2147483647) (r_c : -2147483648 ≤ c ∧ c ≤ 2147483647) : zMi l yX7_addActor wsX7_addActor ({ frames := 5, cells := 0, slots := 0, locals := 115 }) D cI cT [.ref (ad 120), .int (zI (a)), .int (zI (b)), .int (zI (c))] sz (fun _ H => zW D ad 20 (sC cI ad σ) H ∧ hO1 D ad (n : Int) (m : Int) H ∧ hO2 D cT ad H ∧ hQs D cI ad σs H ∧ cY D cI ad tl tx rd rp H) (fun rr H => ∃ (σ' : Nat → Int → Int) (σs' : Nat → Nat → Int → Int) (g' : Int → Int) (n' m' : Nat) (hs' : Nat → Int → Int), (Rel σ' g' ∧ cH σs' n' m' hs' ∧ n' ≤ 5 ∧ m' < 5) ∧ oR (eAddA g a b c) (g 1) (mkA g a b c) g n hs g' n' hs' rr ∧ zW D ad 20 (sC cI ad σ') H ∧ hO1 D ad (n' : Int) (m' : Int) H ∧ hO2 D cT ad H ∧ hQs D cI ad σs' H ∧ cY D cI ad tl tx rd rp H) (zR ad 127 sz) := by
  refine Met.ofW (cc := cX7_addActor) (maxL := 4) (ret := (some .int)) (by decide) rfl ?_
  intro p_ e_ s m_ args below meth c_ s₁ B hml hv
  obtain ⟨rfl, hsz, hK, hF⟩ := hv
  have hx := B.exec
  have hb := B.bytes
  have hr := B.returns
  have hts := atoms_spec (ws := wsX7_addActor) B.pre
  have hown : s.vm.findClass RX7 = some m_.cls := findClass_of_methodNamed B.named
  have hlocks := B.notSynchronized
  have S : CallFix p_ m_ c_ cX7_addActor 4 s _ wsX7_addActor RX7 := ⟨hx, hb, hml, hown, hts⟩
  have i_X7 : ∀ w ∈ u_ws RX7 TX7 4, w ∈ wsX7_addActor := fun _ h => List.mem_cons_of_mem _ (List.mem_append_left _ (List.mem_append_left _ (List.mem_append_left _ (List.mem_append_left _ (List.mem_append_left _ (List.mem_append_right _ h))))))
  have i_X4 : ∀ w ∈ u_ws RX4 TX4 9, w ∈ wsX7_addActor := fun _ h => List.mem_cons_of_mem _ (List.mem_append_left _ (List.mem_append_left _ (List.mem_append_left _ (List.mem_append_left _ (List.mem_append_right _ h)))))
  have i_X0 : ∀ w ∈ u_ws RX0 TX0 3, w ∈ wsX7_addActor := fun _ h => List.mem_cons_of_mem _ (List.mem_append_left _ (List.mem_append_left _ (List.mem_append_left _ (List.mem_append_right _ h))))
  subst hsz
  generalize hAe : (zR ad 127 s.heap.size) = A
  have hAn : ∀ q : Nat, s.heap.size ≤ q → A q := fun q h => by rw [← hAe]; exact Or.inr h
  obtain ⟨H, hHe⟩ : ∃ H : Heap, H = s.heap := ⟨_, rfl⟩
  rw [← hHe] at hF ⊢
  have hS : va_S A s.heap H [] := by rw [hHe]; exact va_S.rf
  obtain ⟨hP, hH1, hH2, hQ, hY⟩ := hF
  have hA7 : ∀ k : Nat, k < 127 → A (ad k) := fun k hk => by rw [← hAe]; exact Or.inl ⟨k, hk, rfl⟩
  have hAin : ∀ k : Nat, k < 20 → A (ad k) := fun k hk => hA7 k (by omega)
  have hJ : zJ ad 20 := zJ_le hJ7 (by decide)
  have hnA := iv_nA hI
  have hl := lv_entry ([.ref (ad 120), .int (zI (a)), .int (zI (b)), .int (zI (c))]) (n := 4) (Nat.le_of_ble_eq_true rfl)
  rw [lg_entry_eq]
  generalize (lg_sl ([.ref (ad 120), .int (zI (a)), .int (zI (b)), .int (zI (c))]) ++ List.replicate (4 - (lg_sl ([.ref (ad 120), .int (zI (a)), .int (zI (b)), .int (zI (c))])).length) Slot.unset).toArray = ls at hl ⊢
  have hl : lv_has ls 4 [(0, .ref (ad 120)), (1, .int (zI (a))), (2, .int (zI (b))), (3, .int (zI (c)))] := hl
  refine lv_iload_n (pc := 0) hx hb dX7_addActor_0 rfl (lv_at hl 1 rfl) ?_
  refine lv_iload_n (pc := 1) hx hb dX7_addActor_1 rfl (lv_at hl 2 rfl) ?_
  refine lv_iload_n (pc := 2) hx hb dX7_addActor_2 rfl (lv_at hl 3 rfl) ?_
  refine zr_si (pc := 3) (As := [.int (zI (a)), .int (zI (b)), .int (zI (c))]) (rest := []) S (ct_X7_areMeasures l D cI cT a b c (by omega) (by omega) (by omega)) (va_cwS 3 hts gX7_addActor_X7_areMeasures rfl rfl rfl (by decide +kernel) ⟨Nat.le_of_ble_eq_true rfl, Nat.le_of_ble_eq_true rfl⟩) zs0 hK trivial rfl hl.1 rfl (Nat.le_of_ble_eq_true rfl) dX7_addActor_3 ⟨Nat.le_of_ble_eq_true rfl, Nat.le_of_ble_eq_true rfl⟩ (fun r_3 hr_3 => ?_)
  rcases hr_3 with ⟨hb_3, rfl⟩ | ⟨hb_3, rfl⟩
  · refine zr_if_ne (pc := 6) (tgt := 13) hx hb dX7_addActor_6 (by decide) (by decide) (fun _ => ?_) (fun z => absurd z (by decide))
    refine lv_aload_n (pc := 13) hx hb dX7_addActor_13 rfl (lv_at hl 0 rfl) ?_
    refine zr_get (pc := 14) S hK hY.1 rfl i_X7 0 (by decide) (List.mem_of_getElem? (i := 1) rfl) rfl dX7_addActor_14 ?_
    refine zr_get (pc := 17) S hK (hP 0 (by decide)) rfl i_X4 1 (by decide) (List.mem_of_getElem? (i := 2) rfl) rfl dX7_addActor_17 ?_
    refine zr_get (pc := 20) S hK (hP 2 (by decide)) rfl i_X0 0 (by decide) (List.mem_of_getElem? (i := 3) rfl) rfl dX7_addActor_20 ?_
    refine zr_top (b := g 1) (rl_nA hR) ?_
    refine lv_bipush (pc := 23) (v := zI 8) hx hb dX7_addActor_23 zc_bipush_8 ?_
    refine zr_icmp_lt (pc := 25) (tgt := 32) hx hb dX7_addActor_25 (by decide) (by omega) (by decide) (fun c_25 => ?_) (fun c_25 => ?_)
    · refine lv_aload_n (pc := 32) hx hb dX7_addActor_32 rfl (lv_at hl 0 rfl) ?_
      refine zr_get (pc := 33) S hK hY.1 rfl i_X7 1 (by decide) (List.mem_of_getElem? (i := 4) rfl) rfl dX7_addActor_33 ?_
      refine lv_aload_n (pc := 36) hx hb dX7_addActor_36 rfl (lv_at hl 0 rfl) ?_
      refine zr_get (pc := 37) S hK hY.1 rfl i_X7 0 (by decide) (List.mem_of_getElem? (i := 1) rfl) rfl dX7_addActor_37 ?_
      refine zr_vwv (pc := 40) (As := [.ref (ad 0)]) (rest := []) S (ct_X2_remember l D cI cT H.size ad σ σs n m hn hm hJ7) (cwV 1 hts gX7_addActor_X2_remember rfl rfl rfl (by decide +kernel) ⟨Nat.le_of_ble_eq_true rfl, Nat.le_of_ble_eq_true rfl⟩) zs0 hK ⟨hP, hH1, hH2, hQ⟩ (zr_recv hK hH1 rfl) hS (fun q h => h.elim (fun z => z.elim (fun e => by rw [e]; exact hA7 125 (by decide)) (fun ⟨j, k, hj, hk, e⟩ => by rw [e]; exact hA7 _ (by omega))) (fun z => hAn q (Nat.le_trans hS.1 z))) rfl hl.1 rfl (Nat.le_of_ble_eq_true rfl) dX7_addActor_40 ⟨Nat.le_of_ble_eq_true rfl, Nat.le_of_ble_eq_true rfl⟩ (fun H locs hG hz hk hS => ?_)
      obtain ⟨hH1, hH2, hQ⟩ := hG
      have hP := hP.keep hk (fun k k0 z => z.elim (fun z => z.elim (fun e => absurd (hJ7 k 125 (by omega) (by decide) e) (by omega)) (fun ⟨j, i, hj, hi, e⟩ => hd_ne hJ7 hj hi (by omega) (by omega) e.symm)) (fun y => absurd (hP.lt k0) (Nat.not_lt.mpr y)))
      have hY := hY.keep hk (fun k k0 k1 hlt z => z.elim (fun z => z.elim (fun e => absurd (hJ7 k 125 (by omega) (by decide) e) (by omega)) (fun ⟨j, i, hj, hi, e⟩ => hd_ne hJ7 hj hi (by omega) (by omega) e.symm)) (fun y => absurd hlt (Nat.not_lt.mpr y)))
      have hC := cH_push hC hn hm (rel_cp (σ := σs m) hR)
      rw [hpN_i n hn, nx_i m hm] at hH1
      refine lv_aload_n (pc := 43) hx hb dX7_addActor_43 rfl (lv_at hl 0 rfl) ?_
      refine zr_get (pc := 44) S hK hY.1 rfl i_X7 0 (by decide) (List.mem_of_getElem? (i := 1) rfl) rfl dX7_addActor_44 ?_
      refine zr_get (pc := 47) S hK (hP 0 (by decide)) rfl i_X4 1 (by decide) (List.mem_of_getElem? (i := 2) rfl) rfl dX7_addActor_47 ?_
      refine lv_iload_n (pc := 50) hx hb dX7_addActor_50 rfl (lv_at hl 1 rfl) ?_
      refine lv_iload_n (pc := 51) hx hb dX7_addActor_51 rfl (lv_at hl 2 rfl) ?_
      refine lv_iload_n (pc := 52) hx hb dX7_addActor_52 rfl (lv_at hl 3 rfl) ?_
      refine zr_vwi (pc := 53) (As := [.int (zI (a)), .int (zI (b)), .int (zI (c))]) (rest := []) S (ct_X0_add l D cI cT H.size ad σ g hR hI hJ a b c (by omega)) (cwV 3 hts gX7_addActor_X0_add rfl rfl rfl (by decide +kernel) ⟨Nat.le_of_ble_eq_true rfl, Nat.le_of_ble_eq_true rfl⟩) zs0 hK hP (zr_recv hK (hP 2 (by decide)) rfl) hS (fun q h => h.elim (fun ⟨k, k0, e⟩ => by rw [e]; exact hAin k k0) (fun z => hAn q (Nat.le_trans hS.1 z))) rfl hl.1 rfl (Nat.le_of_ble_eq_true rfl) dX7_addActor_53 ⟨Nat.le_of_ble_eq_true rfl, Nat.le_of_ble_eq_true rfl⟩ (fun r_53 H locs hG hz hk hS => ?_)
      have hH1 := hH1.kept (hk _ hH1.lt (fun z => z.elim (fun ⟨i, i0, e⟩ => absurd (hJ7 125 i (by decide) (by omega) e) (by omega)) (fun y => absurd hH1.lt (Nat.not_lt.mpr y))))
      have hH2 := hH2.kept (hk _ hH2.lt (fun z => z.elim (fun ⟨i, i0, e⟩ => absurd (hJ7 126 i (by decide) (by omega) e) (by omega)) (fun y => absurd hH2.lt (Nat.not_lt.mpr y))))
      have hQ : hQs D cI ad _ H := fun j hj => (hQ j hj).keep hk (fun k k0 z => z.elim (fun ⟨i, i0, e⟩ => hd_ne hJ7 hj k0 (by omega) (by omega) e) (fun y => absurd ((hQ j hj).lt k0) (Nat.not_lt.mpr y)))
      have hY := hY.keep hk (fun k k0 k1 hlt z => z.elim (fun ⟨i, i0, e⟩ => absurd (hJ7 k i (by omega) (by omega) e) (by omega)) (fun y => absurd hlt (Nat.not_lt.mpr y)))
      obtain ⟨rfl, σ18, hR18, hP⟩ := hG
      exact W.iret (v := zI (g 1)) hx hb hr (fun tz ht hW => ⟨⟨zI (g 1), zI (g 1), rfl, rfl, by dsimp only; rw [ht]; exact ⟨_, _, _, _, _, _, ⟨hR18, hC, hpN_le n, Nat.mod_lt _ (by decide)⟩, oR_ok ((tft (by omega)).trans (tft (by omega))) (rfl) (rfl), hP, hH1, hH2, hQ, hY⟩⟩, hS.F ht⟩) hS.2.2 dX7_addActor_56
    · refine lv_sipush (pc := 28) (v := zI (-2003)) hx hb dX7_addActor_28 zc_sipush_m2003 ?_
      exact W.iret (v := zI ((-2003))) hx hb hr (fun tz ht hW => ⟨⟨zI ((-2003)), zI ((-2003)), rfl, rfl, by dsimp only; rw [ht]; exact ⟨_, _, _, _, _, _, ⟨hR, hC, hn, hm⟩, oR_no ((tft (by omega)).trans (tff (by omega))) (by decide), hP, hH1, hH2, hQ, hY⟩⟩, hS.F ht⟩) hS.2.2 dX7_addActor_31
  · refine zr_if_ne (pc := 6) (tgt := 13) hx hb dX7_addActor_6 (by decide) (by decide) (fun z => absurd z (by decide)) (fun _ => ?_)
    refine lv_sipush (pc := 9) (v := zI (-2001)) hx hb dX7_addActor_9 zc_sipush_m2001 ?_
    exact W.iret (v := zI ((-2001))) hx hb hr (fun tz ht hW => ⟨⟨zI ((-2001)), zI ((-2001)), rfl, rfl, by dsimp only; rw [ht]; exact ⟨_, _, _, _, _, _, ⟨hR, hC, hn, hm⟩, oR_no (tff (fun q => by omega)) (by decide), hP, hH1, hH2, hQ, hY⟩⟩, hS.F ht⟩) hS.2.2 dX7_addActor_12
set_option maxHeartbeats 4000000 in
set_option maxRecDepth 100000 in
theorem ct_X7_setColor (l : Launch) (D : va_G) (cI cT : ClassId) (sz : Nat) (ad : Nat → Nat) (σ : Nat → Int → Int) (g : Int → Int) (hR : Rel σ g) (hI : Inv g) (σs : Nat → Nat → Int → Int) (n m : Nat) (hs : Nat → Int → Int) (tl : Int) (tx rd rp : Int → Int) (hn : n ≤ 5) (hm : m < 5) (hC : cH σs n m hs) (hJ7 : zJ ad 127) (c : Int) (v : Int) (r_c : -2147483648 ≤ c ∧ c ≤ 2147483647) (r_v : -2147483648 ≤ v ∧ v ≤ 2147483647) : zMi l yX7_setColor wsX7_setColor ({ frames := 5, cells := 0, slots := 0, locals := 115 }) D cI cT [.ref (ad 120), .int (zI (c)), .int (zI (v))] sz (fun _ H => zW D ad 20 (sC cI ad σ) H ∧ hO1 D ad (n : Int) (m : Int) H ∧ hO2 D cT ad H ∧ hQs D cI ad σs H ∧ cY D cI ad tl tx rd rp H) (fun rr H => ∃ (σ' : Nat → Int → Int) (σs' : Nat → Nat → Int → Int) (g' : Int → Int) (n' m' : Nat) (hs' : Nat → Int → Int), (Rel σ' g' ∧ cH σs' n' m' hs' ∧ n' ≤ 5 ∧ m' < 5) ∧ oR (eCol g c v) (gC g c 5) (zu g (12 + 20 * c + 5) v) g n hs g' n' hs' rr ∧ zW D ad 20 (sC cI ad σ') H ∧ hO1 D ad (n' : Int) (m' : Int) H ∧ hO2 D cT ad H ∧ hQs D cI ad σs' H ∧ cY D cI ad tl tx rd rp H) (zR ad 127 sz) := by
  refine Met.ofW (cc := cX7_setColor) (maxL := 4) (ret := (some .int)) (by decide) rfl ?_
  intro p_ e_ s m_ args below meth c_ s₁ B hml hv
  obtain ⟨rfl, hsz, hK, hF⟩ := hv
  have hx := B.exec
  have hb := B.bytes
  have hr := B.returns
  have hts := atoms_spec (ws := wsX7_setColor) B.pre
  have hown : s.vm.findClass RX7 = some m_.cls := findClass_of_methodNamed B.named
  have hlocks := B.notSynchronized
  have S : CallFix p_ m_ c_ cX7_setColor 4 s _ wsX7_setColor RX7 := ⟨hx, hb, hml, hown, hts⟩
  have i_X7 : ∀ w ∈ u_ws RX7 TX7 4, w ∈ wsX7_setColor := fun _ h => List.mem_cons_of_mem _ (List.mem_append_left _ (List.mem_append_left _ (List.mem_append_left _ (List.mem_append_left _ (List.mem_append_left _ (List.mem_append_right _ h))))))
  have i_X4 : ∀ w ∈ u_ws RX4 TX4 9, w ∈ wsX7_setColor := fun _ h => List.mem_cons_of_mem _ (List.mem_append_left _ (List.mem_append_left _ (List.mem_append_left _ (List.mem_append_left _ (List.mem_append_right _ h)))))
  have i_X6 : ∀ w ∈ u_ws RX6 TX6 9, w ∈ wsX7_setColor := fun _ h => List.mem_cons_of_mem _ (List.mem_append_left _ (List.mem_append_left _ (List.mem_append_left _ (List.mem_append_right _ h))))
  subst hsz
  generalize hAe : (zR ad 127 s.heap.size) = A
  have hAn : ∀ q : Nat, s.heap.size ≤ q → A q := fun q h => by rw [← hAe]; exact Or.inr h
  obtain ⟨H, hHe⟩ : ∃ H : Heap, H = s.heap := ⟨_, rfl⟩
  rw [← hHe] at hF ⊢
  have hS : va_S A s.heap H [] := by rw [hHe]; exact va_S.rf
  obtain ⟨hP, hH1, hH2, hQ, hY⟩ := hF
  have hA7 : ∀ k : Nat, k < 127 → A (ad k) := fun k hk => by rw [← hAe]; exact Or.inl ⟨k, hk, rfl⟩
  have hAin : ∀ k : Nat, k < 20 → A (ad k) := fun k hk => hA7 k (by omega)
  have hJ : zJ ad 20 := zJ_le hJ7 (by decide)
  have hnC := iv_nC hI
  have hl := lv_entry ([.ref (ad 120), .int (zI (c)), .int (zI (v))]) (n := 4) (Nat.le_of_ble_eq_true rfl)
  rw [lg_entry_eq]
  generalize (lg_sl ([.ref (ad 120), .int (zI (c)), .int (zI (v))]) ++ List.replicate (4 - (lg_sl ([.ref (ad 120), .int (zI (c)), .int (zI (v))])).length) Slot.unset).toArray = ls at hl ⊢
  have hl : lv_has ls 4 [(0, .ref (ad 120)), (1, .int (zI (c))), (2, .int (zI (v)))] := hl
  refine lv_aload_n (pc := 0) hx hb dX7_setColor_0 rfl (lv_at hl 0 rfl) ?_
  refine zr_get (pc := 1) S hK hY.1 rfl i_X7 0 (by decide) (List.mem_of_getElem? (i := 1) rfl) rfl dX7_setColor_1 ?_
  refine zr_get (pc := 4) S hK (hP 0 (by decide)) rfl i_X4 0 (by decide) (List.mem_of_getElem? (i := 2) rfl) rfl dX7_setColor_4 ?_
  refine lv_iload_n (pc := 7) hx hb dX7_setColor_7 rfl (lv_at hl 1 rfl) ?_
  refine zr_vi (pc := 8) (As := [.int (zI (c))]) (rest := []) S (ct_X6_has l D cI cT ad σ g hR hI c (by omega)) (cwV 1 hts gX7_setColor_X6_has rfl rfl rfl (by decide +kernel) ⟨Nat.le_of_ble_eq_true rfl, Nat.le_of_ble_eq_true rfl⟩) zs0 hK hP (zr_recv hK (hP 1 (by decide)) rfl) rfl hl.1 rfl (Nat.le_of_ble_eq_true rfl) dX7_setColor_8 ⟨Nat.le_of_ble_eq_true rfl, Nat.le_of_ble_eq_true rfl⟩ (fun r_8 hr_8 => ?_)
  rcases hr_8 with ⟨hb_8, rfl⟩ | ⟨hb_8, rfl⟩
  · refine zr_if_eq (pc := 11) (tgt := 23) hx hb dX7_setColor_11 (by decide) (by decide) (fun z => absurd z (by decide)) (fun _ => ?_)
    refine lv_iload_n (pc := 14) hx hb dX7_setColor_14 rfl (lv_at hl 2 rfl) ?_
    refine lv_iconst (pc := 15) (v := zI 0) hx hb dX7_setColor_15 rfl ?_
    refine lv_iconst (pc := 16) (v := zI 1) hx hb dX7_setColor_16 rfl ?_
    refine zr_si (pc := 17) (As := [.int (zI (v)), .int (zI (0)), .int (zI (1))]) (rest := []) S (ct_X7_isWithin l D cI cT v 0 1 (by omega) (by decide) (by decide)) (va_cwS 3 hts gX7_setColor_X7_isWithin rfl rfl rfl (by decide +kernel) ⟨Nat.le_of_ble_eq_true rfl, Nat.le_of_ble_eq_true rfl⟩) zs0 hK trivial rfl hl.1 rfl (Nat.le_of_ble_eq_true rfl) dX7_setColor_17 ⟨Nat.le_of_ble_eq_true rfl, Nat.le_of_ble_eq_true rfl⟩ (fun r_17 hr_17 => ?_)
    rcases hr_17 with ⟨hb_17, rfl⟩ | ⟨hb_17, rfl⟩
    · refine zr_if_ne (pc := 20) (tgt := 27) hx hb dX7_setColor_20 (by decide) (by decide) (fun _ => ?_) (fun z => absurd z (by decide))
      refine lv_aload_n (pc := 27) hx hb dX7_setColor_27 rfl (lv_at hl 0 rfl) ?_
      refine zr_get (pc := 28) S hK hY.1 rfl i_X7 1 (by decide) (List.mem_of_getElem? (i := 3) rfl) rfl dX7_setColor_28 ?_
      refine lv_aload_n (pc := 31) hx hb dX7_setColor_31 rfl (lv_at hl 0 rfl) ?_
      refine zr_get (pc := 32) S hK hY.1 rfl i_X7 0 (by decide) (List.mem_of_getElem? (i := 1) rfl) rfl dX7_setColor_32 ?_
      refine zr_vwv (pc := 35) (As := [.ref (ad 0)]) (rest := []) S (ct_X2_remember l D cI cT H.size ad σ σs n m hn hm hJ7) (cwV 1 hts gX7_setColor_X2_remember rfl rfl rfl (by decide +kernel) ⟨Nat.le_of_ble_eq_true rfl, Nat.le_of_ble_eq_true rfl⟩) zs0 hK ⟨hP, hH1, hH2, hQ⟩ (zr_recv hK hH1 rfl) hS (fun q h => h.elim (fun z => z.elim (fun e => by rw [e]; exact hA7 125 (by decide)) (fun ⟨j, k, hj, hk, e⟩ => by rw [e]; exact hA7 _ (by omega))) (fun z => hAn q (Nat.le_trans hS.1 z))) rfl hl.1 rfl (Nat.le_of_ble_eq_true rfl) dX7_setColor_35 ⟨Nat.le_of_ble_eq_true rfl, Nat.le_of_ble_eq_true rfl⟩ (fun H locs hG hz hk hS => ?_)
      obtain ⟨hH1, hH2, hQ⟩ := hG
      have hP := hP.keep hk (fun k k0 z => z.elim (fun z => z.elim (fun e => absurd (hJ7 k 125 (by omega) (by decide) e) (by omega)) (fun ⟨j, i, hj, hi, e⟩ => hd_ne hJ7 hj hi (by omega) (by omega) e.symm)) (fun y => absurd (hP.lt k0) (Nat.not_lt.mpr y)))
      have hY := hY.keep hk (fun k k0 k1 hlt z => z.elim (fun z => z.elim (fun e => absurd (hJ7 k 125 (by omega) (by decide) e) (by omega)) (fun ⟨j, i, hj, hi, e⟩ => hd_ne hJ7 hj hi (by omega) (by omega) e.symm)) (fun y => absurd hlt (Nat.not_lt.mpr y)))
      have hC := cH_push hC hn hm (rel_cp (σ := σs m) hR)
      rw [hpN_i n hn, nx_i m hm] at hH1
      refine lv_aload_n (pc := 38) hx hb dX7_setColor_38 rfl (lv_at hl 0 rfl) ?_
      refine zr_get (pc := 39) S hK hY.1 rfl i_X7 0 (by decide) (List.mem_of_getElem? (i := 1) rfl) rfl dX7_setColor_39 ?_
      refine zr_get (pc := 42) S hK (hP 0 (by decide)) rfl i_X4 0 (by decide) (List.mem_of_getElem? (i := 2) rfl) rfl dX7_setColor_42 ?_
      refine zr_get (pc := 45) S hK (hP 1 (by decide)) rfl i_X6 4 (by decide) (List.mem_of_getElem? (i := 4) rfl) rfl dX7_setColor_45 ?_
      refine lv_iload_n (pc := 48) hx hb dX7_setColor_48 rfl (lv_at hl 1 rfl) ?_
      refine zr_si (pc := 49) (As := [.ref (ad 8), .int (zI (c))]) (rest := []) S (ct_X7_at l D cI cT (ad 8) 16 _ c (gC g c 5) (by decide) (by omega) (by omega) (rl_cl hR (by omega) (by omega)) (by omega)) (va_cwS 2 hts gX7_setColor_X7_at rfl rfl rfl (by decide +kernel) ⟨Nat.le_of_ble_eq_true rfl, Nat.le_of_ble_eq_true rfl⟩) zs_ar hK (zAr_of (zK_int hK) (hP 8 (by decide))) rfl hl.1 rfl (Nat.le_of_ble_eq_true rfl) dX7_setColor_49 ⟨Nat.le_of_ble_eq_true rfl, Nat.le_of_ble_eq_true rfl⟩ (fun r_49 hr_49 => ?_)
      subst hr_49
      refine lv_istore_n (pc := 52) (lv' := [(3, .int (zI (gC g c 5))), (0, .ref (ad 120)), (1, .int (zI (c))), (2, .int (zI (v)))]) hx hb dX7_setColor_52 rfl hl (by decide) rfl (fun ls hl => ?_)
      refine lv_aload_n (pc := 53) hx hb dX7_setColor_53 rfl (lv_at hl 1 rfl) ?_
      refine zr_get (pc := 54) S hK hY.1 rfl i_X7 0 (by decide) (List.mem_of_getElem? (i := 1) rfl) rfl dX7_setColor_54 ?_
      refine zr_get (pc := 57) S hK (hP 0 (by decide)) rfl i_X4 0 (by decide) (List.mem_of_getElem? (i := 2) rfl) rfl dX7_setColor_57 ?_
      refine zr_get (pc := 60) S hK (hP 1 (by decide)) rfl i_X6 4 (by decide) (List.mem_of_getElem? (i := 4) rfl) rfl dX7_setColor_60 ?_
      refine lv_iload_n (pc := 63) hx hb dX7_setColor_63 rfl (lv_at hl 2 rfl) ?_
      refine lv_iload_n (pc := 64) hx hb dX7_setColor_64 rfl (lv_at hl 3 rfl) ?_
      refine zr_swv (pc := 65) (As := [.ref (ad 8), .int (zI (c)), .int (zI (v))]) (rest := []) S (ct_X7_put l D cI cT H.size (ad 8) 16 _ c v (by decide) (by omega) (by omega)) (va_cwS 3 hts gX7_setColor_X7_put rfl rfl rfl (by decide +kernel) ⟨Nat.le_of_ble_eq_true rfl, Nat.le_of_ble_eq_true rfl⟩) zs0 hK (hP 8 (by decide)) hS (fun q h => h.elim (fun e => by rw [e]; exact (hAin 8 (by decide))) (fun z => hAn q (Nat.le_trans hS.1 z))) rfl hl.1 rfl (Nat.le_of_ble_eq_true rfl) dX7_setColor_65 ⟨Nat.le_of_ble_eq_true rfl, Nat.le_of_ble_eq_true rfl⟩ (fun H locs hG hz hk hS => ?_)
      have hkk := fun (q : Nat) (h : _) (z : q ≠ ad 8) => hk q h (fun y => y.elim z (fun y => absurd h (Nat.not_lt.mpr y)))
      have hH1 := hH1.kept (hkk _ hH1.lt (fun e => absurd (hJ7 125 8 (by decide) (by decide) e) (by decide)))
      have hH2 := hH2.kept (hkk _ hH2.lt (fun e => absurd (hJ7 126 8 (by decide) (by decide) e) (by decide)))
      have hQ : hQs D cI ad _ H := fun j hj => (hQ j hj).keep (A1 := fun q => q = ad 8) (fun q h z => hkk q h z) (fun k k0 e => hd_ne hJ7 hj k0 (by decide) (by omega) e)
      have hY := hY.keep (A := fun q => q = ad 8) (fun q h z => hkk q h z) (fun k k0 k1 _ e => absurd (hJ7 k 8 (by omega) (by decide) e) (by omega))
      have hP := zW.put hP hJ 8 (by decide) hG (fun q h1 h2 => hk q h1 (fun z => z.elim h2 (fun y => absurd h1 (Nat.not_lt.mpr y)))) (sC_a 8 (by decide) _ _)
      refine lv_iload_n (pc := 68) hx hb dX7_setColor_68 rfl (lv_at hl 0 rfl) ?_
      exact W.iret (v := zI (gC g c 5)) hx hb hr (fun tz ht hW => ⟨⟨zI (gC g c 5), zI (gC g c 5), rfl, rfl, by dsimp only; rw [ht]; exact ⟨_, _, _, _, _, _, ⟨rel_cl (by omega) (by omega) hR hI, hC, hpN_le n, Nat.mod_lt _ (by decide)⟩, oR_ok (tft (by omega)) (rfl) (rfl), hP, hH1, hH2, hQ, hY⟩⟩, hS.F ht⟩) hS.2.2 dX7_setColor_69
    · refine zr_if_ne (pc := 20) (tgt := 27) hx hb dX7_setColor_20 (by decide) (by decide) (fun z => absurd z (by decide)) (fun _ => ?_)
      refine lv_sipush (pc := 23) (v := zI (-2001)) hx hb dX7_setColor_23 zc_sipush_m2001 ?_
      exact W.iret (v := zI ((-2001))) hx hb hr (fun tz ht hW => ⟨⟨zI ((-2001)), zI ((-2001)), rfl, rfl, by dsimp only; rw [ht]; exact ⟨_, _, _, _, _, _, ⟨hR, hC, hn, hm⟩, oR_no (tff (fun q => by omega)) (by decide), hP, hH1, hH2, hQ, hY⟩⟩, hS.F ht⟩) hS.2.2 dX7_setColor_26
  · refine zr_if_eq (pc := 11) (tgt := 23) hx hb dX7_setColor_11 (by decide) (by decide) (fun _ => ?_) (fun z => absurd z (by decide))
    refine lv_sipush (pc := 23) (v := zI (-2001)) hx hb dX7_setColor_23 zc_sipush_m2001 ?_
    exact W.iret (v := zI ((-2001))) hx hb hr (fun tz ht hW => ⟨⟨zI ((-2001)), zI ((-2001)), rfl, rfl, by dsimp only; rw [ht]; exact ⟨_, _, _, _, _, _, ⟨hR, hC, hn, hm⟩, oR_no (tff (fun q => by omega)) (by decide), hP, hH1, hH2, hQ, hY⟩⟩, hS.F ht⟩) hS.2.2 dX7_setColor_26
