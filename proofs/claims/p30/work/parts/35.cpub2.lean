set_option maxHeartbeats 4000000 in
set_option maxRecDepth 100000 in
theorem ct_X7_wear (l : Launch) (D : va_G) (cI cT : ClassId) (sz : Nat) (ad : Nat → Nat) (σ : Nat → Int → Int) (g : Int → Int) (hR : Rel σ g) (hI : Inv g) (σs : Nat → Nat → Int → Int) (n m : Nat) (hs : Nat → Int → Int) (tl : Int) (tx rd rp : Int → Int) (hn : n ≤ 5) (hm : m < 5) (hC : cH σs n m hs) (hJ7 : zJ ad 127) (sc : Int) (a : Int) (c : Int) (r_sc : -2147483648 ≤ sc ∧ sc ≤ 2147483647) (r_a : -2147483648 ≤ a ∧ a ≤ 2147483647) (r_c : -2147483648 ≤ c ∧ c ≤ 2147483647) : zMi l yX7_wear wsX7_wear ({ frames := 5, cells := 0, slots := 0, locals := 115 }) D cI cT [.ref (ad 120), .int (zI (sc)), .int (zI (a)), .int (zI (c))] sz (fun _ H => zW D ad 20 (sC cI ad σ) H ∧ hO1 D ad (n : Int) (m : Int) H ∧ hO2 D cT ad H ∧ hQs D cI ad σs H ∧ cY D cI ad tl tx rd rp H) (fun rr H => ∃ (σ' : Nat → Int → Int) (σs' : Nat → Nat → Int → Int) (g' : Int → Int) (n' m' : Nat) (hs' : Nat → Int → Int), (Rel σ' g' ∧ cH σs' n' m' hs' ∧ n' ≤ 5 ∧ m' < 5) ∧ oR (eWear g sc a c) (gW g sc a) (zu g (356 + 8 * sc + a) c) g n hs g' n' hs' rr ∧ zW D ad 20 (sC cI ad σ') H ∧ hO1 D ad (n' : Int) (m' : Int) H ∧ hO2 D cT ad H ∧ hQs D cI ad σs' H ∧ cY D cI ad tl tx rd rp H) (zR ad 127 sz) := by
  refine Met.ofW (cc := cX7_wear) (maxL := 4) (ret := (some .int)) (by decide) rfl ?_
  intro p_ e_ s m_ args below meth c_ s₁ B hml hv
  obtain ⟨rfl, hsz, hK, hF⟩ := hv
  have hx := B.exec
  have hb := B.bytes
  have hr := B.returns
  have hts := atoms_spec (ws := wsX7_wear) B.pre
  have hown : s.vm.findClass RX7 = some m_.cls := findClass_of_methodNamed B.named
  have hlocks := B.notSynchronized
  have S : CallFix p_ m_ c_ cX7_wear 4 s _ wsX7_wear RX7 := ⟨hx, hb, hml, hown, hts⟩
  have i_X7 : ∀ w ∈ u_ws RX7 TX7 4, w ∈ wsX7_wear := fun _ h => List.mem_cons_of_mem _ (List.mem_append_left _ (List.mem_append_left _ (List.mem_append_left _ (List.mem_append_left _ (List.mem_append_left _ (List.mem_append_right _ h))))))
  have i_X4 : ∀ w ∈ u_ws RX4 TX4 9, w ∈ wsX7_wear := fun _ h => List.mem_cons_of_mem _ (List.mem_append_left _ (List.mem_append_left _ (List.mem_append_left _ (List.mem_append_left _ (List.mem_append_right _ h)))))
  subst hsz
  generalize hAe : (zR ad 127 s.heap.size) = A
  have hAn : ∀ q : Nat, s.heap.size ≤ q → A q := fun q h => by rw [← hAe]; exact Or.inr h
  obtain ⟨H, hHe⟩ : ∃ H : Heap, H = s.heap := ⟨_, rfl⟩
  rw [← hHe] at hF ⊢
  have hS : va_S A s.heap H [] := by rw [hHe]; exact va_S.rf
  obtain ⟨hP, hH1, hH2, hQ, hY⟩ := hF
  have hA7 : ∀ k : Nat, k < 127 → A (ad k) := fun k hk => by rw [← hAe]; exact Or.inl ⟨k, hk, rfl⟩
  have hAin : ∀ k : Nat, k < 20 → A (ad k) := fun k hk => hA7 k (by omega)
  have hJ : zJ ad 20 := zJ_le hJ7 (by decide)
  have hnA := iv_nA hI
  have hnC := iv_nC hI
  have hl := lv_entry ([.ref (ad 120), .int (zI (sc)), .int (zI (a)), .int (zI (c))]) (n := 4) (Nat.le_of_ble_eq_true rfl)
  rw [lg_entry_eq]
  generalize (lg_sl ([.ref (ad 120), .int (zI (sc)), .int (zI (a)), .int (zI (c))]) ++ List.replicate (4 - (lg_sl ([.ref (ad 120), .int (zI (sc)), .int (zI (a)), .int (zI (c))])).length) Slot.unset).toArray = ls at hl ⊢
  have hl : lv_has ls 4 [(0, .ref (ad 120)), (1, .int (zI (sc))), (2, .int (zI (a))), (3, .int (zI (c)))] := hl
  refine lv_iload_n (pc := 0) hx hb dX7_wear_0 rfl (lv_at hl 1 rfl) ?_
  refine lv_iconst (pc := 1) (v := zI 0) hx hb dX7_wear_1 rfl ?_
  refine lv_bipush (pc := 2) (v := zI 11) hx hb dX7_wear_2 zc_bipush_11 ?_
  refine zr_si (pc := 4) (As := [.int (zI (sc)), .int (zI (0)), .int (zI (11))]) (rest := []) S (ct_X7_isWithin l D cI cT sc 0 11 (by omega) (by decide) (by decide)) (va_cwS 3 hts gX7_wear_X7_isWithin rfl rfl rfl (by decide +kernel) ⟨Nat.le_of_ble_eq_true rfl, Nat.le_of_ble_eq_true rfl⟩) zs0 hK trivial rfl hl.1 rfl (Nat.le_of_ble_eq_true rfl) dX7_wear_4 ⟨Nat.le_of_ble_eq_true rfl, Nat.le_of_ble_eq_true rfl⟩ (fun r_4 hr_4 => ?_)
  rcases hr_4 with ⟨hb_4, rfl⟩ | ⟨hb_4, rfl⟩
  · refine zr_if_eq (pc := 7) (tgt := 43) hx hb dX7_wear_7 (by decide) (by decide) (fun z => absurd z (by decide)) (fun _ => ?_)
    refine lv_aload_n (pc := 10) hx hb dX7_wear_10 rfl (lv_at hl 0 rfl) ?_
    refine zr_get (pc := 11) S hK hY.1 rfl i_X7 0 (by decide) (List.mem_of_getElem? (i := 1) rfl) rfl dX7_wear_11 ?_
    refine zr_get (pc := 14) S hK (hP 0 (by decide)) rfl i_X4 1 (by decide) (List.mem_of_getElem? (i := 2) rfl) rfl dX7_wear_14 ?_
    refine lv_iload_n (pc := 17) hx hb dX7_wear_17 rfl (lv_at hl 2 rfl) ?_
    refine zr_vi (pc := 18) (As := [.int (zI (a))]) (rest := []) S (ct_X0_has l D cI cT ad σ g hR hI a (by omega)) (cwV 1 hts gX7_wear_X0_has rfl rfl rfl (by decide +kernel) ⟨Nat.le_of_ble_eq_true rfl, Nat.le_of_ble_eq_true rfl⟩) zs0 hK hP (zr_recv hK (hP 2 (by decide)) rfl) rfl hl.1 rfl (Nat.le_of_ble_eq_true rfl) dX7_wear_18 ⟨Nat.le_of_ble_eq_true rfl, Nat.le_of_ble_eq_true rfl⟩ (fun r_18 hr_18 => ?_)
    rcases hr_18 with ⟨hb_18, rfl⟩ | ⟨hb_18, rfl⟩
    · refine zr_if_eq (pc := 21) (tgt := 43) hx hb dX7_wear_21 (by decide) (by decide) (fun z => absurd z (by decide)) (fun _ => ?_)
      refine lv_iload_n (pc := 24) hx hb dX7_wear_24 rfl (lv_at hl 3 rfl) ?_
      refine lv_iconst (pc := 25) (v := zI (-1)) hx hb dX7_wear_25 rfl ?_
      refine zr_icmp_eq (pc := 26) (tgt := 47) hx hb dX7_wear_26 (by decide) (by omega) (by decide) (fun c_26 => ?_) (fun c_26 => ?_)
      · refine lv_aload_n (pc := 47) hx hb dX7_wear_47 rfl (lv_at hl 0 rfl) ?_
        refine zr_get (pc := 48) S hK hY.1 rfl i_X7 1 (by decide) (List.mem_of_getElem? (i := 4) rfl) rfl dX7_wear_48 ?_
        refine lv_aload_n (pc := 51) hx hb dX7_wear_51 rfl (lv_at hl 0 rfl) ?_
        refine zr_get (pc := 52) S hK hY.1 rfl i_X7 0 (by decide) (List.mem_of_getElem? (i := 1) rfl) rfl dX7_wear_52 ?_
        refine zr_vwv (pc := 55) (As := [.ref (ad 0)]) (rest := []) S (ct_X2_remember l D cI cT H.size ad σ σs n m hn hm hJ7) (cwV 1 hts gX7_wear_X2_remember rfl rfl rfl (by decide +kernel) ⟨Nat.le_of_ble_eq_true rfl, Nat.le_of_ble_eq_true rfl⟩) zs0 hK ⟨hP, hH1, hH2, hQ⟩ (zr_recv hK hH1 rfl) hS (fun q h => h.elim (fun z => z.elim (fun e => by rw [e]; exact hA7 125 (by decide)) (fun ⟨j, k, hj, hk, e⟩ => by rw [e]; exact hA7 _ (by omega))) (fun z => hAn q (Nat.le_trans hS.1 z))) rfl hl.1 rfl (Nat.le_of_ble_eq_true rfl) dX7_wear_55 ⟨Nat.le_of_ble_eq_true rfl, Nat.le_of_ble_eq_true rfl⟩ (fun H locs hG hz hk hS => ?_)
        obtain ⟨hH1, hH2, hQ⟩ := hG
        have hP := hP.keep hk (fun k k0 z => z.elim (fun z => z.elim (fun e => absurd (hJ7 k 125 (by omega) (by decide) e) (by omega)) (fun ⟨j, i, hj, hi, e⟩ => hd_ne hJ7 hj hi (by omega) (by omega) e.symm)) (fun y => absurd (hP.lt k0) (Nat.not_lt.mpr y)))
        have hY := hY.keep hk (fun k k0 k1 hlt z => z.elim (fun z => z.elim (fun e => absurd (hJ7 k 125 (by omega) (by decide) e) (by omega)) (fun ⟨j, i, hj, hi, e⟩ => hd_ne hJ7 hj hi (by omega) (by omega) e.symm)) (fun y => absurd hlt (Nat.not_lt.mpr y)))
        have hC := cH_push hC hn hm (rel_cp (σ := σs m) hR)
        rw [hpN_i n hn, nx_i m hm] at hH1
        refine lv_aload_n (pc := 58) hx hb dX7_wear_58 rfl (lv_at hl 0 rfl) ?_
        refine zr_get (pc := 59) S hK hY.1 rfl i_X7 0 (by decide) (List.mem_of_getElem? (i := 1) rfl) rfl dX7_wear_59 ?_
        refine zr_get (pc := 62) S hK (hP 0 (by decide)) rfl i_X4 1 (by decide) (List.mem_of_getElem? (i := 2) rfl) rfl dX7_wear_62 ?_
        refine lv_iload_n (pc := 65) hx hb dX7_wear_65 rfl (lv_at hl 1 rfl) ?_
        refine lv_iload_n (pc := 66) hx hb dX7_wear_66 rfl (lv_at hl 2 rfl) ?_
        refine lv_iload_n (pc := 67) hx hb dX7_wear_67 rfl (lv_at hl 3 rfl) ?_
        refine zr_vwi (pc := 68) (As := [.int (zI (sc)), .int (zI (a)), .int (zI (c))]) (rest := []) S (ct_X0_dress l D cI cT H.size ad σ g hR hI hJ sc a c (by omega) (by omega) (by omega) (by omega)) (cwV 3 hts gX7_wear_X0_dress rfl rfl rfl (by decide +kernel) ⟨Nat.le_of_ble_eq_true rfl, Nat.le_of_ble_eq_true rfl⟩) zs0 hK hP (zr_recv hK (hP 2 (by decide)) rfl) hS (fun q h => h.elim (fun ⟨k, k0, e⟩ => by rw [e]; exact hAin k k0) (fun z => hAn q (Nat.le_trans hS.1 z))) rfl hl.1 rfl (Nat.le_of_ble_eq_true rfl) dX7_wear_68 ⟨Nat.le_of_ble_eq_true rfl, Nat.le_of_ble_eq_true rfl⟩ (fun r_68 H locs hG hz hk hS => ?_)
        have hH1 := hH1.kept (hk _ hH1.lt (fun z => z.elim (fun ⟨i, i0, e⟩ => absurd (hJ7 125 i (by decide) (by omega) e) (by omega)) (fun y => absurd hH1.lt (Nat.not_lt.mpr y))))
        have hH2 := hH2.kept (hk _ hH2.lt (fun z => z.elim (fun ⟨i, i0, e⟩ => absurd (hJ7 126 i (by decide) (by omega) e) (by omega)) (fun y => absurd hH2.lt (Nat.not_lt.mpr y))))
        have hQ : hQs D cI ad _ H := fun j hj => (hQ j hj).keep hk (fun k k0 z => z.elim (fun ⟨i, i0, e⟩ => hd_ne hJ7 hj k0 (by omega) (by omega) e) (fun y => absurd ((hQ j hj).lt k0) (Nat.not_lt.mpr y)))
        have hY := hY.keep hk (fun k k0 k1 hlt z => z.elim (fun ⟨i, i0, e⟩ => absurd (hJ7 k i (by omega) (by omega) e) (by omega)) (fun y => absurd hlt (Nat.not_lt.mpr y)))
        obtain ⟨rfl, σ19, hR19, hP⟩ := hG
        exact W.iret (v := zI (gW g sc a)) hx hb hr (fun tz ht hW => ⟨⟨zI (gW g sc a), zI (gW g sc a), rfl, rfl, by dsimp only; rw [ht]; exact ⟨_, _, _, _, _, _, ⟨hR19, hC, hpN_le n, Nat.mod_lt _ (by decide)⟩, oR_ok (tft (by omega)) (rfl) (rfl), hP, hH1, hH2, hQ, hY⟩⟩, hS.F ht⟩) hS.2.2 dX7_wear_71
      · refine lv_aload_n (pc := 29) hx hb dX7_wear_29 rfl (lv_at hl 0 rfl) ?_
        refine zr_get (pc := 30) S hK hY.1 rfl i_X7 0 (by decide) (List.mem_of_getElem? (i := 1) rfl) rfl dX7_wear_30 ?_
        refine zr_get (pc := 33) S hK (hP 0 (by decide)) rfl i_X4 0 (by decide) (List.mem_of_getElem? (i := 3) rfl) rfl dX7_wear_33 ?_
        refine lv_iload_n (pc := 36) hx hb dX7_wear_36 rfl (lv_at hl 3 rfl) ?_
        refine zr_vi (pc := 37) (As := [.int (zI (c))]) (rest := []) S (ct_X6_has l D cI cT ad σ g hR hI c (by omega)) (cwV 1 hts gX7_wear_X6_has rfl rfl rfl (by decide +kernel) ⟨Nat.le_of_ble_eq_true rfl, Nat.le_of_ble_eq_true rfl⟩) zs0 hK hP (zr_recv hK (hP 1 (by decide)) rfl) rfl hl.1 rfl (Nat.le_of_ble_eq_true rfl) dX7_wear_37 ⟨Nat.le_of_ble_eq_true rfl, Nat.le_of_ble_eq_true rfl⟩ (fun r_37 hr_37 => ?_)
        rcases hr_37 with ⟨hb_37, rfl⟩ | ⟨hb_37, rfl⟩
        · refine zr_if_ne (pc := 40) (tgt := 47) hx hb dX7_wear_40 (by decide) (by decide) (fun _ => ?_) (fun z => absurd z (by decide))
          refine lv_aload_n (pc := 47) hx hb dX7_wear_47 rfl (lv_at hl 0 rfl) ?_
          refine zr_get (pc := 48) S hK hY.1 rfl i_X7 1 (by decide) (List.mem_of_getElem? (i := 4) rfl) rfl dX7_wear_48 ?_
          refine lv_aload_n (pc := 51) hx hb dX7_wear_51 rfl (lv_at hl 0 rfl) ?_
          refine zr_get (pc := 52) S hK hY.1 rfl i_X7 0 (by decide) (List.mem_of_getElem? (i := 1) rfl) rfl dX7_wear_52 ?_
          refine zr_vwv (pc := 55) (As := [.ref (ad 0)]) (rest := []) S (ct_X2_remember l D cI cT H.size ad σ σs n m hn hm hJ7) (cwV 1 hts gX7_wear_X2_remember rfl rfl rfl (by decide +kernel) ⟨Nat.le_of_ble_eq_true rfl, Nat.le_of_ble_eq_true rfl⟩) zs0 hK ⟨hP, hH1, hH2, hQ⟩ (zr_recv hK hH1 rfl) hS (fun q h => h.elim (fun z => z.elim (fun e => by rw [e]; exact hA7 125 (by decide)) (fun ⟨j, k, hj, hk, e⟩ => by rw [e]; exact hA7 _ (by omega))) (fun z => hAn q (Nat.le_trans hS.1 z))) rfl hl.1 rfl (Nat.le_of_ble_eq_true rfl) dX7_wear_55 ⟨Nat.le_of_ble_eq_true rfl, Nat.le_of_ble_eq_true rfl⟩ (fun H locs hG hz hk hS => ?_)
          obtain ⟨hH1, hH2, hQ⟩ := hG
          have hP := hP.keep hk (fun k k0 z => z.elim (fun z => z.elim (fun e => absurd (hJ7 k 125 (by omega) (by decide) e) (by omega)) (fun ⟨j, i, hj, hi, e⟩ => hd_ne hJ7 hj hi (by omega) (by omega) e.symm)) (fun y => absurd (hP.lt k0) (Nat.not_lt.mpr y)))
          have hY := hY.keep hk (fun k k0 k1 hlt z => z.elim (fun z => z.elim (fun e => absurd (hJ7 k 125 (by omega) (by decide) e) (by omega)) (fun ⟨j, i, hj, hi, e⟩ => hd_ne hJ7 hj hi (by omega) (by omega) e.symm)) (fun y => absurd hlt (Nat.not_lt.mpr y)))
          have hC := cH_push hC hn hm (rel_cp (σ := σs m) hR)
          rw [hpN_i n hn, nx_i m hm] at hH1
          refine lv_aload_n (pc := 58) hx hb dX7_wear_58 rfl (lv_at hl 0 rfl) ?_
          refine zr_get (pc := 59) S hK hY.1 rfl i_X7 0 (by decide) (List.mem_of_getElem? (i := 1) rfl) rfl dX7_wear_59 ?_
          refine zr_get (pc := 62) S hK (hP 0 (by decide)) rfl i_X4 1 (by decide) (List.mem_of_getElem? (i := 2) rfl) rfl dX7_wear_62 ?_
          refine lv_iload_n (pc := 65) hx hb dX7_wear_65 rfl (lv_at hl 1 rfl) ?_
          refine lv_iload_n (pc := 66) hx hb dX7_wear_66 rfl (lv_at hl 2 rfl) ?_
          refine lv_iload_n (pc := 67) hx hb dX7_wear_67 rfl (lv_at hl 3 rfl) ?_
          refine zr_vwi (pc := 68) (As := [.int (zI (sc)), .int (zI (a)), .int (zI (c))]) (rest := []) S (ct_X0_dress l D cI cT H.size ad σ g hR hI hJ sc a c (by omega) (by omega) (by omega) (by omega)) (cwV 3 hts gX7_wear_X0_dress rfl rfl rfl (by decide +kernel) ⟨Nat.le_of_ble_eq_true rfl, Nat.le_of_ble_eq_true rfl⟩) zs0 hK hP (zr_recv hK (hP 2 (by decide)) rfl) hS (fun q h => h.elim (fun ⟨k, k0, e⟩ => by rw [e]; exact hAin k k0) (fun z => hAn q (Nat.le_trans hS.1 z))) rfl hl.1 rfl (Nat.le_of_ble_eq_true rfl) dX7_wear_68 ⟨Nat.le_of_ble_eq_true rfl, Nat.le_of_ble_eq_true rfl⟩ (fun r_68 H locs hG hz hk hS => ?_)
          have hH1 := hH1.kept (hk _ hH1.lt (fun z => z.elim (fun ⟨i, i0, e⟩ => absurd (hJ7 125 i (by decide) (by omega) e) (by omega)) (fun y => absurd hH1.lt (Nat.not_lt.mpr y))))
          have hH2 := hH2.kept (hk _ hH2.lt (fun z => z.elim (fun ⟨i, i0, e⟩ => absurd (hJ7 126 i (by decide) (by omega) e) (by omega)) (fun y => absurd hH2.lt (Nat.not_lt.mpr y))))
          have hQ : hQs D cI ad _ H := fun j hj => (hQ j hj).keep hk (fun k k0 z => z.elim (fun ⟨i, i0, e⟩ => hd_ne hJ7 hj k0 (by omega) (by omega) e) (fun y => absurd ((hQ j hj).lt k0) (Nat.not_lt.mpr y)))
          have hY := hY.keep hk (fun k k0 k1 hlt z => z.elim (fun ⟨i, i0, e⟩ => absurd (hJ7 k i (by omega) (by omega) e) (by omega)) (fun y => absurd hlt (Nat.not_lt.mpr y)))
          obtain ⟨rfl, σ20, hR20, hP⟩ := hG
          exact W.iret (v := zI (gW g sc a)) hx hb hr (fun tz ht hW => ⟨⟨zI (gW g sc a), zI (gW g sc a), rfl, rfl, by dsimp only; rw [ht]; exact ⟨_, _, _, _, _, _, ⟨hR20, hC, hpN_le n, Nat.mod_lt _ (by decide)⟩, oR_ok (tft (by omega)) (rfl) (rfl), hP, hH1, hH2, hQ, hY⟩⟩, hS.F ht⟩) hS.2.2 dX7_wear_71
        · refine zr_if_ne (pc := 40) (tgt := 47) hx hb dX7_wear_40 (by decide) (by decide) (fun z => absurd z (by decide)) (fun _ => ?_)
          refine lv_sipush (pc := 43) (v := zI (-2001)) hx hb dX7_wear_43 zc_sipush_m2001 ?_
          exact W.iret (v := zI ((-2001))) hx hb hr (fun tz ht hW => ⟨⟨zI ((-2001)), zI ((-2001)), rfl, rfl, by dsimp only; rw [ht]; exact ⟨_, _, _, _, _, _, ⟨hR, hC, hn, hm⟩, oR_no (tff (fun q => by omega)) (by decide), hP, hH1, hH2, hQ, hY⟩⟩, hS.F ht⟩) hS.2.2 dX7_wear_46
    · refine zr_if_eq (pc := 21) (tgt := 43) hx hb dX7_wear_21 (by decide) (by decide) (fun _ => ?_) (fun z => absurd z (by decide))
      refine lv_sipush (pc := 43) (v := zI (-2001)) hx hb dX7_wear_43 zc_sipush_m2001 ?_
      exact W.iret (v := zI ((-2001))) hx hb hr (fun tz ht hW => ⟨⟨zI ((-2001)), zI ((-2001)), rfl, rfl, by dsimp only; rw [ht]; exact ⟨_, _, _, _, _, _, ⟨hR, hC, hn, hm⟩, oR_no (tff (fun q => by omega)) (by decide), hP, hH1, hH2, hQ, hY⟩⟩, hS.F ht⟩) hS.2.2 dX7_wear_46
  · refine zr_if_eq (pc := 7) (tgt := 43) hx hb dX7_wear_7 (by decide) (by decide) (fun _ => ?_) (fun z => absurd z (by decide))
    refine lv_sipush (pc := 43) (v := zI (-2001)) hx hb dX7_wear_43 zc_sipush_m2001 ?_
    exact W.iret (v := zI ((-2001))) hx hb hr (fun tz ht hW => ⟨⟨zI ((-2001)), zI ((-2001)), rfl, rfl, by dsimp only; rw [ht]; exact ⟨_, _, _, _, _, _, ⟨hR, hC, hn, hm⟩, oR_no (tff (fun q => by omega)) (by decide), hP, hH1, hH2, hQ, hY⟩⟩, hS.F ht⟩) hS.2.2 dX7_wear_46
set_option maxHeartbeats 4000000 in
set_option maxRecDepth 100000 in
theorem ct_X7_pass (l : Launch) (D : va_G) (cI cT : ClassId) (sz : Nat) (ad : Nat → Nat) (σ : Nat → Int → Int) (g : Int → Int) (hR : Rel σ g) (hI : Inv g) (σs : Nat → Nat → Int → Int) (n m : Nat) (hs : Nat → Int → Int) (tl : Int) (tx rd rp : Int → Int) (hn : n ≤ 5) (hm : m < 5) (hC : cH σs n m hs) (hJ7 : zJ ad 127) (d : Int) (r_d : -2147483648 ≤ d ∧ d ≤ 2147483647) : zMi l yX7_pass wsX7_pass ({ frames := 5, cells := 0, slots := 0, locals := 115 }) D cI cT [.ref (ad 120), .int (zI (d))] sz (fun _ H => zW D ad 20 (sC cI ad σ) H ∧ hO1 D ad (n : Int) (m : Int) H ∧ hO2 D cT ad H ∧ hQs D cI ad σs H ∧ cY D cI ad tl tx rd rp H) (fun rr H => ∃ (σ' : Nat → Int → Int) (σs' : Nat → Nat → Int → Int) (g' : Int → Int) (n' m' : Nat) (hs' : Nat → Int → Int), (Rel σ' g' ∧ cH σs' n' m' hs' ∧ n' ≤ 5 ∧ m' < 5) ∧ oR (ePass g d) (g 3 + d) (zu g 3 (g 3 + d)) g n hs g' n' hs' rr ∧ zW D ad 20 (sC cI ad σ') H ∧ hO1 D ad (n' : Int) (m' : Int) H ∧ hO2 D cT ad H ∧ hQs D cI ad σs' H ∧ cY D cI ad tl tx rd rp H) (zR ad 127 sz) := by
  refine Met.ofW (cc := cX7_pass) (maxL := 2) (ret := (some .int)) (by decide) rfl ?_
  intro p_ e_ s m_ args below meth c_ s₁ B hml hv
  obtain ⟨rfl, hsz, hK, hF⟩ := hv
  have hx := B.exec
  have hb := B.bytes
  have hr := B.returns
  have hts := atoms_spec (ws := wsX7_pass) B.pre
  have hown : s.vm.findClass RX7 = some m_.cls := findClass_of_methodNamed B.named
  have hlocks := B.notSynchronized
  have S : CallFix p_ m_ c_ cX7_pass 2 s _ wsX7_pass RX7 := ⟨hx, hb, hml, hown, hts⟩
  have i_X7 : ∀ w ∈ u_ws RX7 TX7 4, w ∈ wsX7_pass := fun _ h => List.mem_cons_of_mem _ (List.mem_append_left _ (List.mem_append_left _ (List.mem_append_left _ (List.mem_append_left _ (List.mem_append_left _ (List.mem_append_right _ h))))))
  have i_X4 : ∀ w ∈ u_ws RX4 TX4 9, w ∈ wsX7_pass := fun _ h => List.mem_cons_of_mem _ (List.mem_append_left _ (List.mem_append_left _ (List.mem_append_left _ (List.mem_append_left _ (List.mem_append_right _ h)))))
  subst hsz
  generalize hAe : (zR ad 127 s.heap.size) = A
  have hAn : ∀ q : Nat, s.heap.size ≤ q → A q := fun q h => by rw [← hAe]; exact Or.inr h
  obtain ⟨H, hHe⟩ : ∃ H : Heap, H = s.heap := ⟨_, rfl⟩
  rw [← hHe] at hF ⊢
  have hS : va_S A s.heap H [] := by rw [hHe]; exact va_S.rf
  obtain ⟨hP, hH1, hH2, hQ, hY⟩ := hF
  have hA7 : ∀ k : Nat, k < 127 → A (ad k) := fun k hk => by rw [← hAe]; exact Or.inl ⟨k, hk, rfl⟩
  have hAin : ∀ k : Nat, k < 20 → A (ad k) := fun k hk => hA7 k (by omega)
  have hJ : zJ ad 20 := zJ_le hJ7 (by decide)
  have hto := iv_to hI
  have hl := lv_entry ([.ref (ad 120), .int (zI (d))]) (n := 2) (Nat.le_of_ble_eq_true rfl)
  rw [lg_entry_eq]
  generalize (lg_sl ([.ref (ad 120), .int (zI (d))]) ++ List.replicate (2 - (lg_sl ([.ref (ad 120), .int (zI (d))])).length) Slot.unset).toArray = ls at hl ⊢
  have hl : lv_has ls 2 [(0, .ref (ad 120)), (1, .int (zI (d)))] := hl
  refine lv_iload_n (pc := 0) hx hb dX7_pass_0 rfl (lv_at hl 1 rfl) ?_
  refine lv_iconst (pc := 1) (v := zI 1) hx hb dX7_pass_1 rfl ?_
  refine lv_bipush (pc := 2) (v := zI 60) hx hb dX7_pass_2 zc_bipush_60 ?_
  refine zr_si (pc := 4) (As := [.int (zI (d)), .int (zI (1)), .int (zI (60))]) (rest := []) S (ct_X7_isWithin l D cI cT d 1 60 (by omega) (by decide) (by decide)) (va_cwS 3 hts gX7_pass_X7_isWithin rfl rfl rfl (by decide +kernel) ⟨Nat.le_of_ble_eq_true rfl, Nat.le_of_ble_eq_true rfl⟩) zs0 hK trivial rfl hl.1 rfl (Nat.le_of_ble_eq_true rfl) dX7_pass_4 ⟨Nat.le_of_ble_eq_true rfl, Nat.le_of_ble_eq_true rfl⟩ (fun r_4 hr_4 => ?_)
  rcases hr_4 with ⟨hb_4, rfl⟩ | ⟨hb_4, rfl⟩
  · refine zr_if_ne (pc := 7) (tgt := 14) hx hb dX7_pass_7 (by decide) (by decide) (fun _ => ?_) (fun z => absurd z (by decide))
    refine lv_aload_n (pc := 14) hx hb dX7_pass_14 rfl (lv_at hl 0 rfl) ?_
    refine zr_get (pc := 15) S hK hY.1 rfl i_X7 0 (by decide) (List.mem_of_getElem? (i := 1) rfl) rfl dX7_pass_15 ?_
    refine zr_get (pc := 18) S hK (hP 0 (by decide)) rfl i_X4 4 (by decide) (List.mem_of_getElem? (i := 2) rfl) rfl dX7_pass_18 ?_
    refine zr_top (b := g 3) (rl_to hR) ?_
    refine lv_iload_n (pc := 21) hx hb dX7_pass_21 rfl (lv_at hl 1 rfl) ?_
    refine zr_iadd (pc := 22) (d := (g 3) + d) hx hb dX7_pass_22 rfl ?_
    refine lv_sipush (pc := 23) (v := zI 300) hx hb dX7_pass_23 zc_sipush_300 ?_
    refine zr_icmp_le (pc := 26) (tgt := 33) hx hb dX7_pass_26 (by decide) (by omega) (by decide) (fun c_26 => ?_) (fun c_26 => ?_)
    · refine lv_aload_n (pc := 33) hx hb dX7_pass_33 rfl (lv_at hl 0 rfl) ?_
      refine zr_get (pc := 34) S hK hY.1 rfl i_X7 1 (by decide) (List.mem_of_getElem? (i := 3) rfl) rfl dX7_pass_34 ?_
      refine lv_aload_n (pc := 37) hx hb dX7_pass_37 rfl (lv_at hl 0 rfl) ?_
      refine zr_get (pc := 38) S hK hY.1 rfl i_X7 0 (by decide) (List.mem_of_getElem? (i := 1) rfl) rfl dX7_pass_38 ?_
      refine zr_vwv (pc := 41) (As := [.ref (ad 0)]) (rest := []) S (ct_X2_remember l D cI cT H.size ad σ σs n m hn hm hJ7) (cwV 1 hts gX7_pass_X2_remember rfl rfl rfl (by decide +kernel) ⟨Nat.le_of_ble_eq_true rfl, Nat.le_of_ble_eq_true rfl⟩) zs0 hK ⟨hP, hH1, hH2, hQ⟩ (zr_recv hK hH1 rfl) hS (fun q h => h.elim (fun z => z.elim (fun e => by rw [e]; exact hA7 125 (by decide)) (fun ⟨j, k, hj, hk, e⟩ => by rw [e]; exact hA7 _ (by omega))) (fun z => hAn q (Nat.le_trans hS.1 z))) rfl hl.1 rfl (Nat.le_of_ble_eq_true rfl) dX7_pass_41 ⟨Nat.le_of_ble_eq_true rfl, Nat.le_of_ble_eq_true rfl⟩ (fun H locs hG hz hk hS => ?_)
      obtain ⟨hH1, hH2, hQ⟩ := hG
      have hP := hP.keep hk (fun k k0 z => z.elim (fun z => z.elim (fun e => absurd (hJ7 k 125 (by omega) (by decide) e) (by omega)) (fun ⟨j, i, hj, hi, e⟩ => hd_ne hJ7 hj hi (by omega) (by omega) e.symm)) (fun y => absurd (hP.lt k0) (Nat.not_lt.mpr y)))
      have hY := hY.keep hk (fun k k0 k1 hlt z => z.elim (fun z => z.elim (fun e => absurd (hJ7 k 125 (by omega) (by decide) e) (by omega)) (fun ⟨j, i, hj, hi, e⟩ => hd_ne hJ7 hj hi (by omega) (by omega) e.symm)) (fun y => absurd hlt (Nat.not_lt.mpr y)))
      have hC := cH_push hC hn hm (rel_cp (σ := σs m) hR)
      rw [hpN_i n hn, nx_i m hm] at hH1
      refine lv_aload_n (pc := 44) hx hb dX7_pass_44 rfl (lv_at hl 0 rfl) ?_
      refine zr_get (pc := 45) S hK hY.1 rfl i_X7 0 (by decide) (List.mem_of_getElem? (i := 1) rfl) rfl dX7_pass_45 ?_
      refine lv_dup (pc := 48) hx hb dX7_pass_48 rfl ?_
      refine zr_get (pc := 49) S hK (hP 0 (by decide)) rfl i_X4 4 (by decide) (List.mem_of_getElem? (i := 2) rfl) rfl dX7_pass_49 ?_
      refine zr_top (b := g 3) (rl_to hR) ?_
      refine lv_iload_n (pc := 52) hx hb dX7_pass_52 rfl (lv_at hl 1 rfl) ?_
      refine zr_iadd (pc := 53) (d := (g 3) + d) hx hb dX7_pass_53 rfl ?_
      refine zr_put (pc := 54) S hK (hP 0 (by decide)) rfl i_X4 tyX4 tyX4_ok nmX4 4 (by decide) (List.mem_of_getElem? (i := 2) rfl) rfl rfl rfl (Nat.le_of_ble_eq_true rfl) hS (hAin 0 (by decide)) dX7_pass_54 (fun H locs hO hz hk hS => ?_)
      have hkk := fun (q : Nat) (h : _) (z : q ≠ ad 0) => hk q h z
      have hH1 := hH1.kept (hkk _ hH1.lt (fun e => absurd (hJ7 125 0 (by decide) (by decide) e) (by decide)))
      have hH2 := hH2.kept (hkk _ hH2.lt (fun e => absurd (hJ7 126 0 (by decide) (by decide) e) (by decide)))
      have hQ : hQs D cI ad _ H := fun j hj => (hQ j hj).keep (A1 := fun q => q = ad 0) (fun q h z => hkk q h z) (fun k k0 e => hd_ne hJ7 hj k0 (by decide) (by omega) e)
      have hY := hY.keep (A := fun q => q = ad 0) (fun q h z => hkk q h z) (fun k k0 k1 _ e => absurd (hJ7 k 0 (by omega) (by decide) e) (by omega))
      have hP := zW.put hP hJ 0 (by decide) hO hk (sC_0_0 ((g 3) + d))
      refine lv_aload_n (pc := 57) hx hb dX7_pass_57 rfl (lv_at hl 0 rfl) ?_
      refine zr_get (pc := 58) S hK hY.1 rfl i_X7 0 (by decide) (List.mem_of_getElem? (i := 1) rfl) rfl dX7_pass_58 ?_
      refine zr_get (pc := 61) S hK (hP 0 (by decide)) rfl i_X4 4 (by decide) (List.mem_of_getElem? (i := 2) rfl) rfl dX7_pass_61 ?_
      refine zr_top (b := (g 3) + d) (by rw [su_s, if_pos rfl]) ?_
      exact W.iret (v := zI ((g 3) + d)) hx hb hr (fun tz ht hW => ⟨⟨zI ((g 3) + d), zI ((g 3) + d), rfl, rfl, by dsimp only; rw [ht]; exact ⟨_, _, _, _, _, _, ⟨rel_to hR hI, hC, hpN_le n, Nat.mod_lt _ (by decide)⟩, oR_ok ((tft (by omega)).trans (tft (by omega))) (rfl) (rfl), hP, hH1, hH2, hQ, hY⟩⟩, hS.F ht⟩) hS.2.2 dX7_pass_64
    · refine lv_sipush (pc := 29) (v := zI (-2003)) hx hb dX7_pass_29 zc_sipush_m2003 ?_
      exact W.iret (v := zI ((-2003))) hx hb hr (fun tz ht hW => ⟨⟨zI ((-2003)), zI ((-2003)), rfl, rfl, by dsimp only; rw [ht]; exact ⟨_, _, _, _, _, _, ⟨hR, hC, hn, hm⟩, oR_no ((tft (by omega)).trans (tff (by omega))) (by decide), hP, hH1, hH2, hQ, hY⟩⟩, hS.F ht⟩) hS.2.2 dX7_pass_32
  · refine zr_if_ne (pc := 7) (tgt := 14) hx hb dX7_pass_7 (by decide) (by decide) (fun z => absurd z (by decide)) (fun _ => ?_)
    refine lv_sipush (pc := 10) (v := zI (-2001)) hx hb dX7_pass_10 zc_sipush_m2001 ?_
    exact W.iret (v := zI ((-2001))) hx hb hr (fun tz ht hW => ⟨⟨zI ((-2001)), zI ((-2001)), rfl, rfl, by dsimp only; rw [ht]; exact ⟨_, _, _, _, _, _, ⟨hR, hC, hn, hm⟩, oR_no (tff (fun q => by omega)) (by decide), hP, hH1, hH2, hQ, hY⟩⟩, hS.F ht⟩) hS.2.2 dX7_pass_13
set_option maxHeartbeats 4000000 in
set_option maxRecDepth 100000 in
theorem ct_X7_perform (l : Launch) (D : va_G) (cI cT : ClassId) (sz : Nat) (ad : Nat → Nat) (σ : Nat → Int → Int) (g : Int → Int) (hR : Rel σ g) (hI : Inv g) (σs : Nat → Nat → Int → Int) (n m : Nat) (hs : Nat → Int → Int) (tl : Int) (tx rd rp : Int → Int) (hn : n ≤ 5) (hm : m < 5) (hC : cH σs n m hs) (hJ7 : zJ ad 127)   : zMi l yX7_perform wsX7_perform ({ frames := 7, cells := 0, slots := 0, locals := 166 }) D cI cT [.ref (ad 120)] sz (fun _ H => zW D ad 20 (sC cI ad σ) H ∧ hO1 D ad (n : Int) (m : Int) H ∧ hO2 D cT ad H ∧ hQs D cI ad σs H ∧ cY D cI ad tl tx rd rp H) (fun rr H => ∃ (σ' : Nat → Int → Int) (σs' : Nat → Nat → Int → Int) (g' : Int → Int) (n' m' : Nat) (hs' : Nat → Int → Int), (Rel σ' g' ∧ cH σs' n' m' hs' ∧ n' ≤ 5 ∧ m' < 5) ∧ oR (ePerf g) (g 3 + 1) (zu (zu (soG g (g 0).toNat) 7 (g 7 + 1)) 3 (g 3 + 1)) g n hs g' n' hs' rr ∧ zW D ad 20 (sC cI ad σ') H ∧ hO1 D ad (n' : Int) (m' : Int) H ∧ hO2 D cT ad H ∧ hQs D cI ad σs' H ∧ cY D cI ad tl tx rd rp H) (zR ad 127 sz) := by
  refine Met.ofW (cc := cX7_perform) (maxL := 2) (ret := (some .int)) (by decide) rfl ?_
  intro p_ e_ s m_ args below meth c_ s₁ B hml hv
  obtain ⟨rfl, hsz, hK, hF⟩ := hv
  have hx := B.exec
  have hb := B.bytes
  have hr := B.returns
  have hts := atoms_spec (ws := wsX7_perform) B.pre
  have hown : s.vm.findClass RX7 = some m_.cls := findClass_of_methodNamed B.named
  have hlocks := B.notSynchronized
  have S : CallFix p_ m_ c_ cX7_perform 2 s _ wsX7_perform RX7 := ⟨hx, hb, hml, hown, hts⟩
  have i_X7 : ∀ w ∈ u_ws RX7 TX7 4, w ∈ wsX7_perform := fun _ h => List.mem_cons_of_mem _ (List.mem_append_left _ (List.mem_append_left _ (List.mem_append_left _ (List.mem_append_left _ (List.mem_append_left _ (List.mem_append_right _ h))))))
  have i_X4 : ∀ w ∈ u_ws RX4 TX4 9, w ∈ wsX7_perform := fun _ h => List.mem_cons_of_mem _ (List.mem_append_left _ (List.mem_append_left _ (List.mem_append_left _ (List.mem_append_left _ (List.mem_append_right _ h)))))
  subst hsz
  generalize hAe : (zR ad 127 s.heap.size) = A
  have hAn : ∀ q : Nat, s.heap.size ≤ q → A q := fun q h => by rw [← hAe]; exact Or.inr h
  obtain ⟨H, hHe⟩ : ∃ H : Heap, H = s.heap := ⟨_, rfl⟩
  rw [← hHe] at hF ⊢
  have hS : va_S A s.heap H [] := by rw [hHe]; exact va_S.rf
  obtain ⟨hP, hH1, hH2, hQ, hY⟩ := hF
  have hA7 : ∀ k : Nat, k < 127 → A (ad k) := fun k hk => by rw [← hAe]; exact Or.inl ⟨k, hk, rfl⟩
  have hAin : ∀ k : Nat, k < 20 → A (ad k) := fun k hk => hA7 k (by omega)
  have hJ : zJ ad 20 := zJ_le hJ7 (by decide)
  have hnC := iv_nC hI
  have hnA := iv_nA hI
  have hto := iv_to hI
  have hl := lv_entry ([.ref (ad 120)]) (n := 2) (Nat.le_of_ble_eq_true rfl)
  rw [lg_entry_eq]
  generalize (lg_sl ([.ref (ad 120)]) ++ List.replicate (2 - (lg_sl ([.ref (ad 120)])).length) Slot.unset).toArray = ls at hl ⊢
  have hl : lv_has ls 2 [(0, .ref (ad 120))] := hl
  refine lv_iconst (pc := 0) (v := zI 0) hx hb dX7_perform_0 rfl ?_
  refine lv_istore_n (pc := 1) (lv' := [(1, .int (zI (0))), (0, .ref (ad 120))]) hx hb dX7_perform_1 rfl hl (by decide) rfl (fun ls hl => ?_)
  refine zr_loop1 (fun (k : Nat) => ((k : Int) ≤ 5) ∧ (∀ j : Int, 0 ≤ j → j < (k : Int) → prb g j = 0)) (fun (k : Nat) => (5 : Int).toNat - k) (fun (k : Nat) => [(0, .ref (ad 120)), (1, .int (zI ((k : Int))))]) ?_ (0) (⟨by omega, fa_0⟩) (lv_sub hl [1, 0] rfl)
  intro k hinv ih_2 ls hl
  obtain ⟨h_k, h_n⟩ := hinv
  refine lv_iload_n (pc := 2) hx hb dX7_perform_2 rfl (lv_at hl 1 rfl) ?_
  refine lv_iconst (pc := 3) (v := zI 5) hx hb dX7_perform_3 rfl ?_
  refine zr_icmp_ge (pc := 4) (tgt := 28) hx hb dX7_perform_4 (by decide) (by omega) (by decide) (fun c_4 => ?_) (fun c_4 => ?_)
  · refine lv_aload_n (pc := 28) hx hb dX7_perform_28 rfl (lv_at hl 0 rfl) ?_
    refine zr_get (pc := 29) S hK hY.1 rfl i_X7 0 (by decide) (List.mem_of_getElem? (i := 1) rfl) rfl dX7_perform_29 ?_
    refine zr_get (pc := 32) S hK (hP 0 (by decide)) rfl i_X4 4 (by decide) (List.mem_of_getElem? (i := 2) rfl) rfl dX7_perform_32 ?_
    refine zr_top (b := g 3) (rl_to hR) ?_
    refine lv_sipush (pc := 35) (v := zI 300) hx hb dX7_perform_35 zc_sipush_300 ?_
    refine zr_icmp_lt (pc := 38) (tgt := 45) hx hb dX7_perform_38 (by decide) (by omega) (by decide) (fun c_38 => ?_) (fun c_38 => ?_)
    · refine lv_aload_n (pc := 45) hx hb dX7_perform_45 rfl (lv_at hl 0 rfl) ?_
      refine zr_get (pc := 46) S hK hY.1 rfl i_X7 1 (by decide) (List.mem_of_getElem? (i := 3) rfl) rfl dX7_perform_46 ?_
      refine lv_aload_n (pc := 49) hx hb dX7_perform_49 rfl (lv_at hl 0 rfl) ?_
      refine zr_get (pc := 50) S hK hY.1 rfl i_X7 0 (by decide) (List.mem_of_getElem? (i := 1) rfl) rfl dX7_perform_50 ?_
      refine zr_vwv (pc := 53) (As := [.ref (ad 0)]) (rest := []) S (ct_X2_remember l D cI cT H.size ad σ σs n m hn hm hJ7) (cwV 1 hts gX7_perform_X2_remember rfl rfl rfl (by decide +kernel) ⟨Nat.le_of_ble_eq_true rfl, Nat.le_of_ble_eq_true rfl⟩) zs0 hK ⟨hP, hH1, hH2, hQ⟩ (zr_recv hK hH1 rfl) hS (fun q h => h.elim (fun z => z.elim (fun e => by rw [e]; exact hA7 125 (by decide)) (fun ⟨j, k, hj, hk, e⟩ => by rw [e]; exact hA7 _ (by omega))) (fun z => hAn q (Nat.le_trans hS.1 z))) rfl hl.1 rfl (Nat.le_of_ble_eq_true rfl) dX7_perform_53 ⟨Nat.le_of_ble_eq_true rfl, Nat.le_of_ble_eq_true rfl⟩ (fun H locs hG hz hk hS => ?_)
      obtain ⟨hH1, hH2, hQ⟩ := hG
      have hP := hP.keep hk (fun k k0 z => z.elim (fun z => z.elim (fun e => absurd (hJ7 k 125 (by omega) (by decide) e) (by omega)) (fun ⟨j, i, hj, hi, e⟩ => hd_ne hJ7 hj hi (by omega) (by omega) e.symm)) (fun y => absurd (hP.lt k0) (Nat.not_lt.mpr y)))
      have hY := hY.keep hk (fun k k0 k1 hlt z => z.elim (fun z => z.elim (fun e => absurd (hJ7 k 125 (by omega) (by decide) e) (by omega)) (fun ⟨j, i, hj, hi, e⟩ => hd_ne hJ7 hj hi (by omega) (by omega) e.symm)) (fun y => absurd hlt (Nat.not_lt.mpr y)))
      have hC := cH_push hC hn hm (rel_cp (σ := σs m) hR)
      rw [hpN_i n hn, nx_i m hm] at hH1
      refine lv_aload_n (pc := 56) hx hb dX7_perform_56 rfl (lv_at hl 0 rfl) ?_
      refine zr_get (pc := 57) S hK hY.1 rfl i_X7 0 (by decide) (List.mem_of_getElem? (i := 1) rfl) rfl dX7_perform_57 ?_
      refine zr_vwv (pc := 60) (As := []) (rest := []) S (ct_X4_soilAll l D cI cT H.size ad σ g hR hI hJ  ) (cwV 0 hts gX7_perform_X4_soilAll rfl rfl rfl (by decide +kernel) ⟨Nat.le_of_ble_eq_true rfl, Nat.le_of_ble_eq_true rfl⟩) zs0 hK hP (zr_recv hK (hP 0 (by decide)) rfl) hS (fun q h => h.elim (fun ⟨k, k0, e⟩ => by rw [e]; exact hAin k k0) (fun z => hAn q (Nat.le_trans hS.1 z))) rfl hl.1 rfl (Nat.le_of_ble_eq_true rfl) dX7_perform_60 ⟨Nat.le_of_ble_eq_true rfl, Nat.le_of_ble_eq_true rfl⟩ (fun H locs hG hz hk hS => ?_)
      have hH1 := hH1.kept (hk _ hH1.lt (fun z => z.elim (fun ⟨i, i0, e⟩ => absurd (hJ7 125 i (by decide) (by omega) e) (by omega)) (fun y => absurd hH1.lt (Nat.not_lt.mpr y))))
      have hH2 := hH2.kept (hk _ hH2.lt (fun z => z.elim (fun ⟨i, i0, e⟩ => absurd (hJ7 126 i (by decide) (by omega) e) (by omega)) (fun y => absurd hH2.lt (Nat.not_lt.mpr y))))
      have hQ : hQs D cI ad _ H := fun j hj => (hQ j hj).keep hk (fun k k0 z => z.elim (fun ⟨i, i0, e⟩ => hd_ne hJ7 hj k0 (by omega) (by omega) e) (fun y => absurd ((hQ j hj).lt k0) (Nat.not_lt.mpr y)))
      have hY := hY.keep hk (fun k k0 k1 hlt z => z.elim (fun ⟨i, i0, e⟩ => absurd (hJ7 k i (by omega) (by omega) e) (by omega)) (fun y => absurd hlt (Nat.not_lt.mpr y)))
      obtain ⟨σ21, hR21, hP⟩ := hG
      have s7 : soG g (g 0).toNat 7 = g 7 := soG_o g _ (fun k k0 k1 => by omega)
      have s3 : soG g (g 0).toNat 3 = g 3 := soG_o g _ (fun k k0 k1 => by omega)
      refine lv_aload_n (pc := 63) hx hb dX7_perform_63 rfl (lv_at hl 0 rfl) ?_
      refine zr_get (pc := 64) S hK hY.1 rfl i_X7 0 (by decide) (List.mem_of_getElem? (i := 1) rfl) rfl dX7_perform_64 ?_
      refine lv_dup (pc := 67) hx hb dX7_perform_67 rfl ?_
      refine zr_get (pc := 68) S hK (hP 0 (by decide)) rfl i_X4 8 (by decide) (List.mem_of_getElem? (i := 4) rfl) rfl dX7_perform_68 ?_
      refine zr_top (b := (soG g (g 0).toNat) 7) (rl_pf hR21) ?_
      refine lv_iconst (pc := 71) (v := zI 1) hx hb dX7_perform_71 rfl ?_
      refine zr_iadd (pc := 72) (d := ((soG g (g 0).toNat) 7) + 1) hx hb dX7_perform_72 rfl ?_
      refine zr_put (pc := 73) S hK (hP 0 (by decide)) rfl i_X4 tyX4 tyX4_ok nmX4 8 (by decide) (List.mem_of_getElem? (i := 4) rfl) rfl rfl rfl (Nat.le_of_ble_eq_true rfl) hS (hAin 0 (by decide)) dX7_perform_73 (fun H locs hO hz hk hS => ?_)
      have hkk := fun (q : Nat) (h : _) (z : q ≠ ad 0) => hk q h z
      have hH1 := hH1.kept (hkk _ hH1.lt (fun e => absurd (hJ7 125 0 (by decide) (by decide) e) (by decide)))
      have hH2 := hH2.kept (hkk _ hH2.lt (fun e => absurd (hJ7 126 0 (by decide) (by decide) e) (by decide)))
      have hQ : hQs D cI ad _ H := fun j hj => (hQ j hj).keep (A1 := fun q => q = ad 0) (fun q h z => hkk q h z) (fun k k0 e => hd_ne hJ7 hj k0 (by decide) (by omega) e)
      have hY := hY.keep (A := fun q => q = ad 0) (fun q h z => hkk q h z) (fun k k0 k1 _ e => absurd (hJ7 k 0 (by omega) (by decide) e) (by omega))
      have hP := zW.put hP hJ 0 (by decide) hO hk (sC_0_4 (((soG g (g 0).toNat) 7) + 1))
      refine lv_aload_n (pc := 76) hx hb dX7_perform_76 rfl (lv_at hl 0 rfl) ?_
      refine zr_get (pc := 77) S hK hY.1 rfl i_X7 0 (by decide) (List.mem_of_getElem? (i := 1) rfl) rfl dX7_perform_77 ?_
      refine lv_dup (pc := 80) hx hb dX7_perform_80 rfl ?_
      refine zr_get (pc := 81) S hK (hP 0 (by decide)) rfl i_X4 4 (by decide) (List.mem_of_getElem? (i := 2) rfl) rfl dX7_perform_81 ?_
      refine zr_top (b := (soG g (g 0).toNat) 3) (by rw [su_s, if_neg (by decide)]; exact rl_to hR21) ?_
      refine lv_iconst (pc := 84) (v := zI 1) hx hb dX7_perform_84 rfl ?_
      refine zr_iadd (pc := 85) (d := ((soG g (g 0).toNat) 3) + 1) hx hb dX7_perform_85 rfl ?_
      refine zr_put (pc := 86) S hK (hP 0 (by decide)) rfl i_X4 tyX4 tyX4_ok nmX4 4 (by decide) (List.mem_of_getElem? (i := 2) rfl) rfl rfl rfl (Nat.le_of_ble_eq_true rfl) hS (hAin 0 (by decide)) dX7_perform_86 (fun H locs hO hz hk hS => ?_)
      have hkk := fun (q : Nat) (h : _) (z : q ≠ ad 0) => hk q h z
      have hH1 := hH1.kept (hkk _ hH1.lt (fun e => absurd (hJ7 125 0 (by decide) (by decide) e) (by decide)))
      have hH2 := hH2.kept (hkk _ hH2.lt (fun e => absurd (hJ7 126 0 (by decide) (by decide) e) (by decide)))
      have hQ : hQs D cI ad _ H := fun j hj => (hQ j hj).keep (A1 := fun q => q = ad 0) (fun q h z => hkk q h z) (fun k k0 e => hd_ne hJ7 hj k0 (by decide) (by omega) e)
      have hY := hY.keep (A := fun q => q = ad 0) (fun q h z => hkk q h z) (fun k k0 k1 _ e => absurd (hJ7 k 0 (by omega) (by decide) e) (by omega))
      have hP := zW.put hP hJ 0 (by decide) hO hk (sC_0_0 (((soG g (g 0).toNat) 3) + 1))
      refine lv_aload_n (pc := 89) hx hb dX7_perform_89 rfl (lv_at hl 0 rfl) ?_
      refine zr_get (pc := 90) S hK hY.1 rfl i_X7 0 (by decide) (List.mem_of_getElem? (i := 1) rfl) rfl dX7_perform_90 ?_
      refine zr_get (pc := 93) S hK (hP 0 (by decide)) rfl i_X4 4 (by decide) (List.mem_of_getElem? (i := 2) rfl) rfl dX7_perform_93 ?_
      refine zr_top (b := ((soG g (g 0).toNat) 3) + 1) (by rw [su_s, if_pos rfl]) ?_
      exact W.iret (v := zI (((soG g (g 0).toNat) 3) + 1)) hx hb hr (fun tz ht hW => ⟨⟨zI (((soG g (g 0).toNat) 3) + 1), zI (((soG g (g 0).toNat) 3) + 1), rfl, rfl, by dsimp only; rw [ht]; exact ⟨_, _, _, _, _, _, ⟨rel_to (rel_pf hR21 (inv_so hI _ (by omega)).1) (inv_7 (inv_so hI _ (by omega)).1), hC, hpN_le n, Nat.mod_lt _ (by decide)⟩, oR_ok ((tft (fun j j0 j1 => h_n j j0 (by omega))).trans (tft (by omega))) (by rw [s3]) (by rw [s7, s3]), hP, hH1, hH2, hQ, hY⟩⟩, hS.F ht⟩) hS.2.2 dX7_perform_96
    · refine lv_sipush (pc := 41) (v := zI (-2003)) hx hb dX7_perform_41 zc_sipush_m2003 ?_
      exact W.iret (v := zI ((-2003))) hx hb hr (fun tz ht hW => ⟨⟨zI ((-2003)), zI ((-2003)), rfl, rfl, by dsimp only; rw [ht]; exact ⟨_, _, _, _, _, _, ⟨hR, hC, hn, hm⟩, oR_no ((tft (fun j j0 j1 => h_n j j0 (by omega))).trans (tff (by omega))) (by decide), hP, hH1, hH2, hQ, hY⟩⟩, hS.F ht⟩) hS.2.2 dX7_perform_44
  · refine lv_aload_n (pc := 7) hx hb dX7_perform_7 rfl (lv_at hl 0 rfl) ?_
    refine zr_get (pc := 8) S hK hY.1 rfl i_X7 0 (by decide) (List.mem_of_getElem? (i := 1) rfl) rfl dX7_perform_8 ?_
    refine lv_iload_n (pc := 11) hx hb dX7_perform_11 rfl (lv_at hl 1 rfl) ?_
    refine zr_vi (pc := 12) (As := [.int (zI ((k : Int)))]) (rest := []) S (ct_X4_problemsOf l D cI cT ad σ g hR hI ((k : Int)) (by omega) (by omega)) (cwV 1 hts gX7_perform_X4_problemsOf rfl rfl rfl (by decide +kernel) ⟨Nat.le_of_ble_eq_true rfl, Nat.le_of_ble_eq_true rfl⟩) zs0 hK hP (zr_recv hK (hP 0 (by decide)) rfl) rfl hl.1 rfl (Nat.le_of_ble_eq_true rfl) dX7_perform_12 ⟨Nat.le_of_ble_eq_true rfl, Nat.le_of_ble_eq_true rfl⟩ (fun r_12 hr_12 => ?_)
    subst hr_12
    have hpb_12 := prb_bd hI ((k : Int))
    refine zr_if_le (pc := 15) (tgt := 22) hx hb dX7_perform_15 (by decide) (by omega) (fun c_15 => ?_) (fun c_15 => ?_)
    · refine zr_iinc (pc := 22) (d := ((k : Int)) + 1) (lv' := [(1, .int (zI (((k : Int)) + 1))), (0, .ref (ad 120))]) hx hb dX7_perform_22 hl (k := 1) rfl rfl (by decide) rfl (fun ls hl => ?_)
      refine lv_goto (pc := 25) (tgt := 2) hx hb dX7_perform_25 (by decide) ?_
      exact ih_2 (k + 1) (⟨by omega, fa_s h_n (by omega)⟩) (by omega) ls (lv_sub hl [1, 0] rfl)
    · refine lv_sipush (pc := 18) (v := zI (-2002)) hx hb dX7_perform_18 zc_sipush_m2002 ?_
      exact W.iret (v := zI ((-2002))) hx hb hr (fun tz ht hW => ⟨⟨zI ((-2002)), zI ((-2002)), rfl, rfl, by dsimp only; rw [ht]; exact ⟨_, _, _, _, _, _, ⟨hR, hC, hn, hm⟩, oR_no (tff (fun q => by have q2 := q k (by omega) (by omega); omega)) (by decide), hP, hH1, hH2, hQ, hY⟩⟩, hS.F ht⟩) hS.2.2 dX7_perform_21
set_option maxHeartbeats 4000000 in
set_option maxRecDepth 100000 in
theorem ct_X7_set (l : Launch) (D : va_G) (cI cT : ClassId) (sz : Nat) (ad : Nat → Nat) (σ : Nat → Int → Int) (g : Int → Int) (hR : Rel σ g) (hI : Inv g) (σs : Nat → Nat → Int → Int) (n m : Nat) (hs : Nat → Int → Int) (tl : Int) (tx rd rp : Int → Int) (hn : n ≤ 5) (hm : m < 5) (hC : cH σs n m hs) (hJ7 : zJ ad 127) (i : Int) (v : Int) (r_i : -2147483648 ≤ i ∧ i ≤ 2147483647) (r_v : -2147483648 ≤ v ∧ v ≤ 2147483647) : zMi l yX7_set wsX7_set ({ frames := 5, cells := 0, slots := 0, locals := 115 }) D cI cT [.ref (ad 120), .int (zI (i)), .int (zI (v))] sz (fun _ H => zW D ad 20 (sC cI ad σ) H ∧ hO1 D ad (n : Int) (m : Int) H ∧ hO2 D cT ad H ∧ hQs D cI ad σs H ∧ cY D cI ad tl tx rd rp H) (fun rr H => ∃ (σ' : Nat → Int → Int) (σs' : Nat → Nat → Int → Int) (g' : Int → Int) (n' m' : Nat) (hs' : Nat → Int → Int), (Rel σ' g' ∧ cH σs' n' m' hs' ∧ n' ≤ 5 ∧ m' < 5) ∧ oR (eSet i v) (gS g i) (zu g (8 + i) v) g n hs g' n' hs' rr ∧ zW D ad 20 (sC cI ad σ') H ∧ hO1 D ad (n' : Int) (m' : Int) H ∧ hO2 D cT ad H ∧ hQs D cI ad σs' H ∧ cY D cI ad tl tx rd rp H) (zR ad 127 sz) := by
  refine Met.ofW (cc := cX7_set) (maxL := 4) (ret := (some .int)) (by decide) rfl ?_
  intro p_ e_ s m_ args below meth c_ s₁ B hml hv
  obtain ⟨rfl, hsz, hK, hF⟩ := hv
  have hx := B.exec
  have hb := B.bytes
  have hr := B.returns
  have hts := atoms_spec (ws := wsX7_set) B.pre
  have hown : s.vm.findClass RX7 = some m_.cls := findClass_of_methodNamed B.named
  have hlocks := B.notSynchronized
  have S : CallFix p_ m_ c_ cX7_set 4 s _ wsX7_set RX7 := ⟨hx, hb, hml, hown, hts⟩
  have i_X7 : ∀ w ∈ u_ws RX7 TX7 4, w ∈ wsX7_set := fun _ h => List.mem_cons_of_mem _ (List.mem_append_left _ (List.mem_append_left _ (List.mem_append_left _ (List.mem_append_left _ (List.mem_append_left _ (List.mem_append_right _ h))))))
  have i_X4 : ∀ w ∈ u_ws RX4 TX4 9, w ∈ wsX7_set := fun _ h => List.mem_cons_of_mem _ (List.mem_append_left _ (List.mem_append_left _ (List.mem_append_left _ (List.mem_append_left _ (List.mem_append_right _ h)))))
  subst hsz
  generalize hAe : (zR ad 127 s.heap.size) = A
  have hAn : ∀ q : Nat, s.heap.size ≤ q → A q := fun q h => by rw [← hAe]; exact Or.inr h
  obtain ⟨H, hHe⟩ : ∃ H : Heap, H = s.heap := ⟨_, rfl⟩
  rw [← hHe] at hF ⊢
  have hS : va_S A s.heap H [] := by rw [hHe]; exact va_S.rf
  obtain ⟨hP, hH1, hH2, hQ, hY⟩ := hF
  have hA7 : ∀ k : Nat, k < 127 → A (ad k) := fun k hk => by rw [← hAe]; exact Or.inl ⟨k, hk, rfl⟩
  have hAin : ∀ k : Nat, k < 20 → A (ad k) := fun k hk => hA7 k (by omega)
  have hJ : zJ ad 20 := zJ_le hJ7 (by decide)
  have hl := lv_entry ([.ref (ad 120), .int (zI (i)), .int (zI (v))]) (n := 4) (Nat.le_of_ble_eq_true rfl)
  rw [lg_entry_eq]
  generalize (lg_sl ([.ref (ad 120), .int (zI (i)), .int (zI (v))]) ++ List.replicate (4 - (lg_sl ([.ref (ad 120), .int (zI (i)), .int (zI (v))])).length) Slot.unset).toArray = ls at hl ⊢
  have hl : lv_has ls 4 [(0, .ref (ad 120)), (1, .int (zI (i))), (2, .int (zI (v)))] := hl
  refine lv_iload_n (pc := 0) hx hb dX7_set_0 rfl (lv_at hl 1 rfl) ?_
  refine lv_iconst (pc := 1) (v := zI 0) hx hb dX7_set_1 rfl ?_
  refine lv_iconst (pc := 2) (v := zI 3) hx hb dX7_set_2 rfl ?_
  refine zr_si (pc := 3) (As := [.int (zI (i)), .int (zI (0)), .int (zI (3))]) (rest := []) S (ct_X7_isWithin l D cI cT i 0 3 (by omega) (by decide) (by decide)) (va_cwS 3 hts gX7_set_X7_isWithin rfl rfl rfl (by decide +kernel) ⟨Nat.le_of_ble_eq_true rfl, Nat.le_of_ble_eq_true rfl⟩) zs0 hK trivial rfl hl.1 rfl (Nat.le_of_ble_eq_true rfl) dX7_set_3 ⟨Nat.le_of_ble_eq_true rfl, Nat.le_of_ble_eq_true rfl⟩ (fun r_3 hr_3 => ?_)
  rcases hr_3 with ⟨hb_3, rfl⟩ | ⟨hb_3, rfl⟩
  · refine zr_if_eq (pc := 6) (tgt := 17) hx hb dX7_set_6 (by decide) (by decide) (fun z => absurd z (by decide)) (fun _ => ?_)
    refine lv_iload_n (pc := 9) hx hb dX7_set_9 rfl (lv_at hl 1 rfl) ?_
    refine lv_iload_n (pc := 10) hx hb dX7_set_10 rfl (lv_at hl 2 rfl) ?_
    refine zr_si (pc := 11) (As := [.int (zI (i)), .int (zI (v))]) (rest := []) S (ct_X7_isSetting l D cI cT i v (by omega) (by omega)) (va_cwS 2 hts gX7_set_X7_isSetting rfl rfl rfl (by decide +kernel) ⟨Nat.le_of_ble_eq_true rfl, Nat.le_of_ble_eq_true rfl⟩) zs0 hK trivial rfl hl.1 rfl (Nat.le_of_ble_eq_true rfl) dX7_set_11 ⟨Nat.le_of_ble_eq_true rfl, Nat.le_of_ble_eq_true rfl⟩ (fun r_11 hr_11 => ?_)
    rcases hr_11 with ⟨hb_11, rfl⟩ | ⟨hb_11, rfl⟩
    · refine zr_if_ne (pc := 14) (tgt := 21) hx hb dX7_set_14 (by decide) (by decide) (fun _ => ?_) (fun z => absurd z (by decide))
      refine lv_aload_n (pc := 21) hx hb dX7_set_21 rfl (lv_at hl 0 rfl) ?_
      refine zr_get (pc := 22) S hK hY.1 rfl i_X7 1 (by decide) (List.mem_of_getElem? (i := 1) rfl) rfl dX7_set_22 ?_
      refine lv_aload_n (pc := 25) hx hb dX7_set_25 rfl (lv_at hl 0 rfl) ?_
      refine zr_get (pc := 26) S hK hY.1 rfl i_X7 0 (by decide) (List.mem_of_getElem? (i := 2) rfl) rfl dX7_set_26 ?_
      refine zr_vwv (pc := 29) (As := [.ref (ad 0)]) (rest := []) S (ct_X2_remember l D cI cT H.size ad σ σs n m hn hm hJ7) (cwV 1 hts gX7_set_X2_remember rfl rfl rfl (by decide +kernel) ⟨Nat.le_of_ble_eq_true rfl, Nat.le_of_ble_eq_true rfl⟩) zs0 hK ⟨hP, hH1, hH2, hQ⟩ (zr_recv hK hH1 rfl) hS (fun q h => h.elim (fun z => z.elim (fun e => by rw [e]; exact hA7 125 (by decide)) (fun ⟨j, k, hj, hk, e⟩ => by rw [e]; exact hA7 _ (by omega))) (fun z => hAn q (Nat.le_trans hS.1 z))) rfl hl.1 rfl (Nat.le_of_ble_eq_true rfl) dX7_set_29 ⟨Nat.le_of_ble_eq_true rfl, Nat.le_of_ble_eq_true rfl⟩ (fun H locs hG hz hk hS => ?_)
      obtain ⟨hH1, hH2, hQ⟩ := hG
      have hP := hP.keep hk (fun k k0 z => z.elim (fun z => z.elim (fun e => absurd (hJ7 k 125 (by omega) (by decide) e) (by omega)) (fun ⟨j, i, hj, hi, e⟩ => hd_ne hJ7 hj hi (by omega) (by omega) e.symm)) (fun y => absurd (hP.lt k0) (Nat.not_lt.mpr y)))
      have hY := hY.keep hk (fun k k0 k1 hlt z => z.elim (fun z => z.elim (fun e => absurd (hJ7 k 125 (by omega) (by decide) e) (by omega)) (fun ⟨j, i, hj, hi, e⟩ => hd_ne hJ7 hj hi (by omega) (by omega) e.symm)) (fun y => absurd hlt (Nat.not_lt.mpr y)))
      have hC := cH_push hC hn hm (rel_cp (σ := σs m) hR)
      rw [hpN_i n hn, nx_i m hm] at hH1
      refine lv_aload_n (pc := 32) hx hb dX7_set_32 rfl (lv_at hl 0 rfl) ?_
      refine zr_get (pc := 33) S hK hY.1 rfl i_X7 0 (by decide) (List.mem_of_getElem? (i := 2) rfl) rfl dX7_set_33 ?_
      refine zr_get (pc := 36) S hK (hP 0 (by decide)) rfl i_X4 3 (by decide) (List.mem_of_getElem? (i := 3) rfl) rfl dX7_set_36 ?_
      refine lv_iload_n (pc := 39) hx hb dX7_set_39 rfl (lv_at hl 1 rfl) ?_
      refine zr_si (pc := 40) (As := [.ref (ad 4), .int (zI (i))]) (rest := []) S (ct_X7_at l D cI cT (ad 4) 4 _ i (gS g i) (by decide) (by omega) (by omega) (rl_se hR (by omega) (by omega)) (by omega)) (va_cwS 2 hts gX7_set_X7_at rfl rfl rfl (by decide +kernel) ⟨Nat.le_of_ble_eq_true rfl, Nat.le_of_ble_eq_true rfl⟩) zs_ar hK (zAr_of (zK_int hK) (hP 4 (by decide))) rfl hl.1 rfl (Nat.le_of_ble_eq_true rfl) dX7_set_40 ⟨Nat.le_of_ble_eq_true rfl, Nat.le_of_ble_eq_true rfl⟩ (fun r_40 hr_40 => ?_)
      subst hr_40
      refine lv_istore_n (pc := 43) (lv' := [(3, .int (zI (gS g i))), (0, .ref (ad 120)), (1, .int (zI (i))), (2, .int (zI (v)))]) hx hb dX7_set_43 rfl hl (by decide) rfl (fun ls hl => ?_)
      refine lv_aload_n (pc := 44) hx hb dX7_set_44 rfl (lv_at hl 1 rfl) ?_
      refine zr_get (pc := 45) S hK hY.1 rfl i_X7 0 (by decide) (List.mem_of_getElem? (i := 2) rfl) rfl dX7_set_45 ?_
      refine zr_get (pc := 48) S hK (hP 0 (by decide)) rfl i_X4 3 (by decide) (List.mem_of_getElem? (i := 3) rfl) rfl dX7_set_48 ?_
      refine lv_iload_n (pc := 51) hx hb dX7_set_51 rfl (lv_at hl 2 rfl) ?_
      refine lv_iload_n (pc := 52) hx hb dX7_set_52 rfl (lv_at hl 3 rfl) ?_
      refine zr_swv (pc := 53) (As := [.ref (ad 4), .int (zI (i)), .int (zI (v))]) (rest := []) S (ct_X7_put l D cI cT H.size (ad 4) 4 _ i v (by decide) (by omega) (by omega)) (va_cwS 3 hts gX7_set_X7_put rfl rfl rfl (by decide +kernel) ⟨Nat.le_of_ble_eq_true rfl, Nat.le_of_ble_eq_true rfl⟩) zs0 hK (hP 4 (by decide)) hS (fun q h => h.elim (fun e => by rw [e]; exact (hAin 4 (by decide))) (fun z => hAn q (Nat.le_trans hS.1 z))) rfl hl.1 rfl (Nat.le_of_ble_eq_true rfl) dX7_set_53 ⟨Nat.le_of_ble_eq_true rfl, Nat.le_of_ble_eq_true rfl⟩ (fun H locs hG hz hk hS => ?_)
      have hkk := fun (q : Nat) (h : _) (z : q ≠ ad 4) => hk q h (fun y => y.elim z (fun y => absurd h (Nat.not_lt.mpr y)))
      have hH1 := hH1.kept (hkk _ hH1.lt (fun e => absurd (hJ7 125 4 (by decide) (by decide) e) (by decide)))
      have hH2 := hH2.kept (hkk _ hH2.lt (fun e => absurd (hJ7 126 4 (by decide) (by decide) e) (by decide)))
      have hQ : hQs D cI ad _ H := fun j hj => (hQ j hj).keep (A1 := fun q => q = ad 4) (fun q h z => hkk q h z) (fun k k0 e => hd_ne hJ7 hj k0 (by decide) (by omega) e)
      have hY := hY.keep (A := fun q => q = ad 4) (fun q h z => hkk q h z) (fun k k0 k1 _ e => absurd (hJ7 k 4 (by omega) (by decide) e) (by omega))
      have hP := zW.put hP hJ 4 (by decide) hG (fun q h1 h2 => hk q h1 (fun z => z.elim h2 (fun y => absurd h1 (Nat.not_lt.mpr y)))) (sC_a 4 (by decide) _ _)
      refine lv_iload_n (pc := 56) hx hb dX7_set_56 rfl (lv_at hl 0 rfl) ?_
      exact W.iret (v := zI (gS g i)) hx hb hr (fun tz ht hW => ⟨⟨zI (gS g i), zI (gS g i), rfl, rfl, by dsimp only; rw [ht]; exact ⟨_, _, _, _, _, _, ⟨rel_se (by omega) (by omega) hR hI, hC, hpN_le n, Nat.mod_lt _ (by decide)⟩, oR_ok (tft (by omega)) (rfl) (rfl), hP, hH1, hH2, hQ, hY⟩⟩, hS.F ht⟩) hS.2.2 dX7_set_57
    · refine zr_if_ne (pc := 14) (tgt := 21) hx hb dX7_set_14 (by decide) (by decide) (fun z => absurd z (by decide)) (fun _ => ?_)
      refine lv_sipush (pc := 17) (v := zI (-2001)) hx hb dX7_set_17 zc_sipush_m2001 ?_
      exact W.iret (v := zI ((-2001))) hx hb hr (fun tz ht hW => ⟨⟨zI ((-2001)), zI ((-2001)), rfl, rfl, by dsimp only; rw [ht]; exact ⟨_, _, _, _, _, _, ⟨hR, hC, hn, hm⟩, oR_no (tff (fun q => by omega)) (by decide), hP, hH1, hH2, hQ, hY⟩⟩, hS.F ht⟩) hS.2.2 dX7_set_20
  · refine zr_if_eq (pc := 6) (tgt := 17) hx hb dX7_set_6 (by decide) (by decide) (fun _ => ?_) (fun z => absurd z (by decide))
    refine lv_sipush (pc := 17) (v := zI (-2001)) hx hb dX7_set_17 zc_sipush_m2001 ?_
    exact W.iret (v := zI ((-2001))) hx hb hr (fun tz ht hW => ⟨⟨zI ((-2001)), zI ((-2001)), rfl, rfl, by dsimp only; rw [ht]; exact ⟨_, _, _, _, _, _, ⟨hR, hC, hn, hm⟩, oR_no (tff (fun q => by omega)) (by decide), hP, hH1, hH2, hQ, hY⟩⟩, hS.F ht⟩) hS.2.2 dX7_set_20
