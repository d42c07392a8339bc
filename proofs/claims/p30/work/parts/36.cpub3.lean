set_option maxHeartbeats 4000000 in
set_option maxRecDepth 100000 in
theorem ct_X7_hire (l : Launch) (D : va_G) (cI cT : ClassId) (sz : Nat) (ad : Nat → Nat) (σ : Nat → Int → Int) (g : Int → Int) (hR : Rel σ g) (hI : Inv g) (σs : Nat → Nat → Int → Int) (n m : Nat) (hs : Nat → Int → Int) (tl : Int) (tx rd rp : Int → Int) (hn : n ≤ 5) (hm : m < 5) (hC : cH σs n m hs) (hJ7 : zJ ad 127) (c : Int) (f : Int) (d : Int) (r : Int) (r_c : -2147483648 ≤ c ∧ c ≤ 2147483647) (r_f : -2147483648 ≤ f ∧ f ≤ 2147483647) (r_d : -2147483648 ≤ d ∧ d ≤ 2147483647) (r_r : -2147483648 ≤ r ∧ r ≤ 2147483647) : zMi l yX7_hire wsX7_hire ({ frames := 5, cells := 0, slots := 0, locals := 115 }) D cI cT [.ref (ad 120), .int (zI (c)), .int (zI (f)), .int (zI (d)), .int (zI (r))] sz (fun _ H => zW D ad 20 (sC cI ad σ) H ∧ hO1 D ad (n : Int) (m : Int) H ∧ hO2 D cT ad H ∧ hQs D cI ad σs H ∧ cY D cI ad tl tx rd rp H) (fun rr H => ∃ (σ' : Nat → Int → Int) (σs' : Nat → Nat → Int → Int) (g' : Int → Int) (n' m' : Nat) (hs' : Nat → Int → Int), (Rel σ' g' ∧ cH σs' n' m' hs' ∧ n' ≤ 5 ∧ m' < 5) ∧ oR (eHire g c f d r) (feeF d r) (zu (mkH g c f d (feeF d r) r) 5 (g 5 + feeF d r)) g n hs g' n' hs' rr ∧ zW D ad 20 (sC cI ad σ') H ∧ hO1 D ad (n' : Int) (m' : Int) H ∧ hO2 D cT ad H ∧ hQs D cI ad σs' H ∧ cY D cI ad tl tx rd rp H) (zR ad 127 sz) := by
  refine Met.ofW (cc := cX7_hire) (maxL := 6) (ret := (some .int)) (by decide) rfl ?_
  intro p_ e_ s m_ args below meth c_ s₁ B hml hv
  obtain ⟨rfl, hsz, hK, hF⟩ := hv
  have hx := B.exec
  have hb := B.bytes
  have hr := B.returns
  have hts := atoms_spec (ws := wsX7_hire) B.pre
  have hown : s.vm.findClass RX7 = some m_.cls := findClass_of_methodNamed B.named
  have hlocks := B.notSynchronized
  have S : CallFix p_ m_ c_ cX7_hire 6 s _ wsX7_hire RX7 := ⟨hx, hb, hml, hown, hts⟩
  have i_X7 : ∀ w ∈ u_ws RX7 TX7 4, w ∈ wsX7_hire := fun _ h => List.mem_cons_of_mem _ (List.mem_append_left _ (List.mem_append_left _ (List.mem_append_left _ (List.mem_append_left _ (List.mem_append_left _ (List.mem_append_right _ h))))))
  have i_X4 : ∀ w ∈ u_ws RX4 TX4 9, w ∈ wsX7_hire := fun _ h => List.mem_cons_of_mem _ (List.mem_append_left _ (List.mem_append_left _ (List.mem_append_left _ (List.mem_append_left _ (List.mem_append_right _ h)))))
  have i_X1 : ∀ w ∈ u_ws RX1 TX1 6, w ∈ wsX7_hire := fun _ h => List.mem_cons_of_mem _ (List.mem_append_left _ (List.mem_append_left _ (List.mem_append_left _ (List.mem_append_right _ h))))
  subst hsz
  generalize hAe : (zR ad 127 s.heap.size) = A
  have hAn : ∀ q : Nat, s.heap.size ≤ q → A q := fun q h => by rw [← hAe]; exact Or.inr h
  obtain ⟨H, hHe⟩ : ∃ H : Heap, H = s.heap := ⟨_, rfl⟩
  rw [← hHe] at hF ⊢
  have hS : va_S A s.heap H [] := by rw [hHe]; exact va_S.rf
  obtain ⟨hP, hH1, hH2, hQ, hY⟩ := hF
  have hA7 : ∀ k : Nat, k < 127 → A (ad k) := fun k hk => by rw [← hAe]; exact Or.inl ⟨k, hk, rfl⟩
  have hAin : ∀ k : Nat, k < 20 → A (ad k) := fun k hk => hA7 k (by omega)
  have hJ : zJ ad 20 := zJ_le hJ7 (by decide)
  have hnC := iv_nC hI
  have hnH := iv_nH hI
  have hto := iv_to hI
  have hl := lv_entry ([.ref (ad 120), .int (zI (c)), .int (zI (f)), .int (zI (d)), .int (zI (r))]) (n := 6) (Nat.le_of_ble_eq_true rfl)
  rw [lg_entry_eq]
  generalize (lg_sl ([.ref (ad 120), .int (zI (c)), .int (zI (f)), .int (zI (d)), .int (zI (r))]) ++ List.replicate (6 - (lg_sl ([.ref (ad 120), .int (zI (c)), .int (zI (f)), .int (zI (d)), .int (zI (r))])).length) Slot.unset).toArray = ls at hl ⊢
  have hl : lv_has ls 6 [(0, .ref (ad 120)), (1, .int (zI (c))), (2, .int (zI (f))), (3, .int (zI (d))), (4, .int (zI (r)))] := hl
  refine lv_aload_n (pc := 0) hx hb dX7_hire_0 rfl (lv_at hl 0 rfl) ?_
  refine zr_get (pc := 1) S hK hY.1 rfl i_X7 0 (by decide) (List.mem_of_getElem? (i := 1) rfl) rfl dX7_hire_1 ?_
  refine zr_get (pc := 4) S hK (hP 0 (by decide)) rfl i_X4 0 (by decide) (List.mem_of_getElem? (i := 2) rfl) rfl dX7_hire_4 ?_
  refine lv_iload_n (pc := 7) hx hb dX7_hire_7 rfl (lv_at hl 1 rfl) ?_
  refine zr_vi (pc := 8) (As := [.int (zI (c))]) (rest := []) S (ct_X6_has l D cI cT ad σ g hR hI c (by omega)) (cwV 1 hts gX7_hire_X6_has rfl rfl rfl (by decide +kernel) ⟨Nat.le_of_ble_eq_true rfl, Nat.le_of_ble_eq_true rfl⟩) zs0 hK hP (zr_recv hK (hP 1 (by decide)) rfl) rfl hl.1 rfl (Nat.le_of_ble_eq_true rfl) dX7_hire_8 ⟨Nat.le_of_ble_eq_true rfl, Nat.le_of_ble_eq_true rfl⟩ (fun r_8 hr_8 => ?_)
  rcases hr_8 with ⟨hb_8, rfl⟩ | ⟨hb_8, rfl⟩
  · refine zr_if_eq (pc := 11) (tgt := 52) hx hb dX7_hire_11 (by decide) (by decide) (fun z => absurd z (by decide)) (fun _ => ?_)
    refine lv_iload_n (pc := 14) hx hb dX7_hire_14 rfl (lv_at hl 2 rfl) ?_
    refine lv_aload_n (pc := 15) hx hb dX7_hire_15 rfl (lv_at hl 0 rfl) ?_
    refine zr_get (pc := 16) S hK hY.1 rfl i_X7 0 (by decide) (List.mem_of_getElem? (i := 1) rfl) rfl dX7_hire_16 ?_
    refine zr_get (pc := 19) S hK (hP 0 (by decide)) rfl i_X4 4 (by decide) (List.mem_of_getElem? (i := 3) rfl) rfl dX7_hire_19 ?_
    refine zr_top (b := g 3) (rl_to hR) ?_
    refine lv_sipush (pc := 22) (v := zI 300) hx hb dX7_hire_22 zc_sipush_300 ?_
    refine zr_si (pc := 25) (As := [.int (zI (f)), .int (zI (g 3)), .int (zI (300))]) (rest := []) S (ct_X7_isWithin l D cI cT f (g 3) 300 (by omega) (by omega) (by decide)) (va_cwS 3 hts gX7_hire_X7_isWithin rfl rfl rfl (by decide +kernel) ⟨Nat.le_of_ble_eq_true rfl, Nat.le_of_ble_eq_true rfl⟩) zs0 hK trivial rfl hl.1 rfl (Nat.le_of_ble_eq_true rfl) dX7_hire_25 ⟨Nat.le_of_ble_eq_true rfl, Nat.le_of_ble_eq_true rfl⟩ (fun r_25 hr_25 => ?_)
    rcases hr_25 with ⟨hb_25, rfl⟩ | ⟨hb_25, rfl⟩
    · refine zr_if_eq (pc := 28) (tgt := 52) hx hb dX7_hire_28 (by decide) (by decide) (fun z => absurd z (by decide)) (fun _ => ?_)
      refine lv_iload_n (pc := 31) hx hb dX7_hire_31 rfl (lv_at hl 3 rfl) ?_
      refine lv_iconst (pc := 32) (v := zI 1) hx hb dX7_hire_32 rfl ?_
      refine lv_bipush (pc := 33) (v := zI 60) hx hb dX7_hire_33 zc_bipush_60 ?_
      refine zr_si (pc := 35) (As := [.int (zI (d)), .int (zI (1)), .int (zI (60))]) (rest := []) S (ct_X7_isWithin l D cI cT d 1 60 (by omega) (by decide) (by decide)) (va_cwS 3 hts gX7_hire_X7_isWithin rfl rfl rfl (by decide +kernel) ⟨Nat.le_of_ble_eq_true rfl, Nat.le_of_ble_eq_true rfl⟩) zs0 hK trivial rfl hl.1 rfl (Nat.le_of_ble_eq_true rfl) dX7_hire_35 ⟨Nat.le_of_ble_eq_true rfl, Nat.le_of_ble_eq_true rfl⟩ (fun r_35 hr_35 => ?_)
      rcases hr_35 with ⟨hb_35, rfl⟩ | ⟨hb_35, rfl⟩
      · refine zr_if_eq (pc := 38) (tgt := 52) hx hb dX7_hire_38 (by decide) (by decide) (fun z => absurd z (by decide)) (fun _ => ?_)
        refine lv_iload (pc := 41) hx hb dX7_hire_41 (lv_at hl 4 rfl) ?_
        refine lv_iconst (pc := 43) (v := zI 1) hx hb dX7_hire_43 rfl ?_
        refine lv_bipush (pc := 44) (v := zI 50) hx hb dX7_hire_44 zc_bipush_50 ?_
        refine zr_si (pc := 46) (As := [.int (zI (r)), .int (zI (1)), .int (zI (50))]) (rest := []) S (ct_X7_isWithin l D cI cT r 1 50 (by omega) (by decide) (by decide)) (va_cwS 3 hts gX7_hire_X7_isWithin rfl rfl rfl (by decide +kernel) ⟨Nat.le_of_ble_eq_true rfl, Nat.le_of_ble_eq_true rfl⟩) zs0 hK trivial rfl hl.1 rfl (Nat.le_of_ble_eq_true rfl) dX7_hire_46 ⟨Nat.le_of_ble_eq_true rfl, Nat.le_of_ble_eq_true rfl⟩ (fun r_46 hr_46 => ?_)
        rcases hr_46 with ⟨hb_46, rfl⟩ | ⟨hb_46, rfl⟩
        · refine zr_if_ne (pc := 49) (tgt := 56) hx hb dX7_hire_49 (by decide) (by decide) (fun _ => ?_) (fun z => absurd z (by decide))
          refine lv_aload_n (pc := 56) hx hb dX7_hire_56 rfl (lv_at hl 0 rfl) ?_
          refine zr_get (pc := 57) S hK hY.1 rfl i_X7 0 (by decide) (List.mem_of_getElem? (i := 1) rfl) rfl dX7_hire_57 ?_
          refine zr_get (pc := 60) S hK (hP 0 (by decide)) rfl i_X4 2 (by decide) (List.mem_of_getElem? (i := 4) rfl) rfl dX7_hire_60 ?_
          refine lv_iload_n (pc := 63) hx hb dX7_hire_63 rfl (lv_at hl 1 rfl) ?_
          refine lv_iload_n (pc := 64) hx hb dX7_hire_64 rfl (lv_at hl 2 rfl) ?_
          refine lv_iload_n (pc := 65) hx hb dX7_hire_65 rfl (lv_at hl 3 rfl) ?_
          refine zr_vi (pc := 66) (As := [.int (zI (c)), .int (zI (f)), .int (zI (d))]) (rest := []) S (ct_X1_overlapping l D cI cT ad σ g hR hI c f d (by omega) (by omega) (by omega) (by omega) (by omega) (by omega)) (cwV 3 hts gX7_hire_X1_overlapping rfl rfl rfl (by decide +kernel) ⟨Nat.le_of_ble_eq_true rfl, Nat.le_of_ble_eq_true rfl⟩) zs0 hK hP (zr_recv hK (hP 3 (by decide)) rfl) rfl hl.1 rfl (Nat.le_of_ble_eq_true rfl) dX7_hire_66 ⟨Nat.le_of_ble_eq_true rfl, Nat.le_of_ble_eq_true rfl⟩ (fun r_66 hr_66 => ?_)
          rcases hr_66 with ⟨rfl, hn_66⟩ | ⟨h_66, hh_66, hi_66, ho_66, rfl⟩
          · refine zr_if_lt (pc := 69) (tgt := 76) hx hb dX7_hire_69 (by decide) (by decide) (fun _ => ?_) (fun z => absurd z (by decide))
            refine lv_aload_n (pc := 76) hx hb dX7_hire_76 rfl (lv_at hl 0 rfl) ?_
            refine zr_get (pc := 77) S hK hY.1 rfl i_X7 0 (by decide) (List.mem_of_getElem? (i := 1) rfl) rfl dX7_hire_77 ?_
            refine zr_get (pc := 80) S hK (hP 0 (by decide)) rfl i_X4 2 (by decide) (List.mem_of_getElem? (i := 4) rfl) rfl dX7_hire_80 ?_
            refine zr_get (pc := 83) S hK (hP 3 (by decide)) rfl i_X1 0 (by decide) (List.mem_of_getElem? (i := 5) rfl) rfl dX7_hire_83 ?_
            refine zr_top (b := g 2) (rl_nH hR) ?_
            refine lv_bipush (pc := 86) (v := zI 24) hx hb dX7_hire_86 zc_bipush_24 ?_
            refine zr_icmp_lt (pc := 88) (tgt := 95) hx hb dX7_hire_88 (by decide) (by omega) (by decide) (fun c_88 => ?_) (fun c_88 => ?_)
            · refine lv_aload_n (pc := 95) hx hb dX7_hire_95 rfl (lv_at hl 0 rfl) ?_
              refine zr_get (pc := 96) S hK hY.1 rfl i_X7 1 (by decide) (List.mem_of_getElem? (i := 6) rfl) rfl dX7_hire_96 ?_
              refine lv_aload_n (pc := 99) hx hb dX7_hire_99 rfl (lv_at hl 0 rfl) ?_
              refine zr_get (pc := 100) S hK hY.1 rfl i_X7 0 (by decide) (List.mem_of_getElem? (i := 1) rfl) rfl dX7_hire_100 ?_
              refine zr_vwv (pc := 103) (As := [.ref (ad 0)]) (rest := []) S (ct_X2_remember l D cI cT H.size ad σ σs n m hn hm hJ7) (cwV 1 hts gX7_hire_X2_remember rfl rfl rfl (by decide +kernel) ⟨Nat.le_of_ble_eq_true rfl, Nat.le_of_ble_eq_true rfl⟩) zs0 hK ⟨hP, hH1, hH2, hQ⟩ (zr_recv hK hH1 rfl) hS (fun q h => h.elim (fun z => z.elim (fun e => by rw [e]; exact hA7 125 (by decide)) (fun ⟨j, k, hj, hk, e⟩ => by rw [e]; exact hA7 _ (by omega))) (fun z => hAn q (Nat.le_trans hS.1 z))) rfl hl.1 rfl (Nat.le_of_ble_eq_true rfl) dX7_hire_103 ⟨Nat.le_of_ble_eq_true rfl, Nat.le_of_ble_eq_true rfl⟩ (fun H locs hG hz hk hS => ?_)
              obtain ⟨hH1, hH2, hQ⟩ := hG
              have hP := hP.keep hk (fun k k0 z => z.elim (fun z => z.elim (fun e => absurd (hJ7 k 125 (by omega) (by decide) e) (by omega)) (fun ⟨j, i, hj, hi, e⟩ => hd_ne hJ7 hj hi (by omega) (by omega) e.symm)) (fun y => absurd (hP.lt k0) (Nat.not_lt.mpr y)))
              have hY := hY.keep hk (fun k k0 k1 hlt z => z.elim (fun z => z.elim (fun e => absurd (hJ7 k 125 (by omega) (by decide) e) (by omega)) (fun ⟨j, i, hj, hi, e⟩ => hd_ne hJ7 hj hi (by omega) (by omega) e.symm)) (fun y => absurd hlt (Nat.not_lt.mpr y)))
              have hC := cH_push hC hn hm (rel_cp (σ := σs m) hR)
              rw [hpN_i n hn, nx_i m hm] at hH1
              refine lv_aload_n (pc := 106) hx hb dX7_hire_106 rfl (lv_at hl 0 rfl) ?_
              refine zr_get (pc := 107) S hK hY.1 rfl i_X7 0 (by decide) (List.mem_of_getElem? (i := 1) rfl) rfl dX7_hire_107 ?_
              refine zr_get (pc := 110) S hK (hP 0 (by decide)) rfl i_X4 2 (by decide) (List.mem_of_getElem? (i := 4) rfl) rfl dX7_hire_110 ?_
              refine lv_iload_n (pc := 113) hx hb dX7_hire_113 rfl (lv_at hl 1 rfl) ?_
              refine lv_iload_n (pc := 114) hx hb dX7_hire_114 rfl (lv_at hl 2 rfl) ?_
              refine lv_iload_n (pc := 115) hx hb dX7_hire_115 rfl (lv_at hl 3 rfl) ?_
              refine lv_iload (pc := 116) hx hb dX7_hire_116 (lv_at hl 4 rfl) ?_
              refine zr_vwi (pc := 118) (As := [.int (zI (c)), .int (zI (f)), .int (zI (d)), .int (zI (r))]) (rest := []) S (ct_X1_add l D cI cT H.size ad σ g hR hI hJ c f d r (by omega) (by omega) (by omega) (by omega) (by omega)) (cwV 4 hts gX7_hire_X1_add rfl rfl rfl (by decide +kernel) ⟨Nat.le_of_ble_eq_true rfl, Nat.le_of_ble_eq_true rfl⟩) zs0 hK hP (zr_recv hK (hP 3 (by decide)) rfl) hS (fun q h => h.elim (fun ⟨k, k0, e⟩ => by rw [e]; exact hAin k k0) (fun z => hAn q (Nat.le_trans hS.1 z))) rfl hl.1 rfl (Nat.le_of_ble_eq_true rfl) dX7_hire_118 ⟨Nat.le_of_ble_eq_true rfl, Nat.le_of_ble_eq_true rfl⟩ (fun r_118 H locs hG hz hk hS => ?_)
              have hH1 := hH1.kept (hk _ hH1.lt (fun z => z.elim (fun ⟨i, i0, e⟩ => absurd (hJ7 125 i (by decide) (by omega) e) (by omega)) (fun y => absurd hH1.lt (Nat.not_lt.mpr y))))
              have hH2 := hH2.kept (hk _ hH2.lt (fun z => z.elim (fun ⟨i, i0, e⟩ => absurd (hJ7 126 i (by decide) (by omega) e) (by omega)) (fun y => absurd hH2.lt (Nat.not_lt.mpr y))))
              have hQ : hQs D cI ad _ H := fun j hj => (hQ j hj).keep hk (fun k k0 z => z.elim (fun ⟨i, i0, e⟩ => hd_ne hJ7 hj k0 (by omega) (by omega) e) (fun y => absurd ((hQ j hj).lt k0) (Nat.not_lt.mpr y)))
              have hY := hY.keep hk (fun k k0 k1 hlt z => z.elim (fun ⟨i, i0, e⟩ => absurd (hJ7 k i (by omega) (by omega) e) (by omega)) (fun y => absurd hlt (Nat.not_lt.mpr y)))
              obtain ⟨rfl, σ22, hR22, hP⟩ := hG
              have s5 : mkH g c f d (feeF d r) r 5 = g 5 := by unfold mkH; rw [if_neg (by omega), if_neg (by omega), if_neg (by omega), if_neg (by omega), if_neg (by omega), if_neg (by omega)]
              refine lv_istore (pc := 121) (lv' := [(5, .int (zI (feeF d r))), (0, .ref (ad 120)), (1, .int (zI (c))), (2, .int (zI (f))), (3, .int (zI (d))), (4, .int (zI (r)))]) hx hb dX7_hire_121 hl (by decide) rfl (fun ls hl => ?_)
              refine lv_aload_n (pc := 123) hx hb dX7_hire_123 rfl (lv_at hl 1 rfl) ?_
              refine zr_get (pc := 124) S hK hY.1 rfl i_X7 0 (by decide) (List.mem_of_getElem? (i := 1) rfl) rfl dX7_hire_124 ?_
              refine lv_dup (pc := 127) hx hb dX7_hire_127 rfl ?_
              refine zr_get (pc := 128) S hK (hP 0 (by decide)) rfl i_X4 6 (by decide) (List.mem_of_getElem? (i := 7) rfl) rfl dX7_hire_128 ?_
              refine zr_top (b := (mkH g c f d (feeF d r) r) 5) (rl_fe hR22) ?_
              refine lv_iload (pc := 131) hx hb dX7_hire_131 (lv_at hl 0 rfl) ?_
              refine zr_iadd (pc := 133) (d := ((mkH g c f d (feeF d r) r) 5) + (feeF d r)) hx hb dX7_hire_133 rfl ?_
              refine zr_put (pc := 134) S hK (hP 0 (by decide)) rfl i_X4 tyX4 tyX4_ok nmX4 6 (by decide) (List.mem_of_getElem? (i := 7) rfl) rfl rfl rfl (Nat.le_of_ble_eq_true rfl) hS (hAin 0 (by decide)) dX7_hire_134 (fun H locs hO hz hk hS => ?_)
              have hkk := fun (q : Nat) (h : _) (z : q ≠ ad 0) => hk q h z
              have hH1 := hH1.kept (hkk _ hH1.lt (fun e => absurd (hJ7 125 0 (by decide) (by decide) e) (by decide)))
              have hH2 := hH2.kept (hkk _ hH2.lt (fun e => absurd (hJ7 126 0 (by decide) (by decide) e) (by decide)))
              have hQ : hQs D cI ad _ H := fun j hj => (hQ j hj).keep (A1 := fun q => q = ad 0) (fun q h z => hkk q h z) (fun k k0 e => hd_ne hJ7 hj k0 (by decide) (by omega) e)
              have hY := hY.keep (A := fun q => q = ad 0) (fun q h z => hkk q h z) (fun k k0 k1 _ e => absurd (hJ7 k 0 (by omega) (by decide) e) (by omega))
              have hP := zW.put hP hJ 0 (by decide) hO hk (sC_0_2 (((mkH g c f d (feeF d r) r) 5) + (feeF d r)))
              refine lv_iload (pc := 137) hx hb dX7_hire_137 (lv_at hl 0 rfl) ?_
              exact W.iret (v := zI (feeF d r)) hx hb hr (fun tz ht hW => ⟨⟨zI (feeF d r), zI (feeF d r), rfl, rfl, by dsimp only; rw [ht]; exact ⟨_, _, _, _, _, _, ⟨rel_fe hR22 (inv_mkH hI (by omega) (by omega) (by omega) (by omega) (by have := feeF_bd (n := d) (r := r) (by omega) (by omega) (by omega) (by omega); omega) (by omega)), hC, hpN_le n, Nat.mod_lt _ (by decide)⟩, oR_ok ((tft (by omega)).trans ((tft (by first | exact hn_66 | omega)).trans (tft (by omega)))) (rfl) (by rw [s5]), hP, hH1, hH2, hQ, hY⟩⟩, hS.F ht⟩) hS.2.2 dX7_hire_139
            · refine lv_sipush (pc := 91) (v := zI (-2003)) hx hb dX7_hire_91 zc_sipush_m2003 ?_
              exact W.iret (v := zI ((-2003))) hx hb hr (fun tz ht hW => ⟨⟨zI ((-2003)), zI ((-2003)), rfl, rfl, by dsimp only; rw [ht]; exact ⟨_, _, _, _, _, _, ⟨hR, hC, hn, hm⟩, oR_no ((tft (by omega)).trans ((tft (by first | exact hn_66 | omega)).trans (tff (by omega)))) (by decide), hP, hH1, hH2, hQ, hY⟩⟩, hS.F ht⟩) hS.2.2 dX7_hire_94
          · refine zr_if_lt (pc := 69) (tgt := 76) hx hb dX7_hire_69 (by decide) (by omega) (fun c_69 => ?_) (fun c_69 => ?_)
            · refine lv_aload_n (pc := 76) hx hb dX7_hire_76 rfl (lv_at hl 0 rfl) ?_
              refine zr_get (pc := 77) S hK hY.1 rfl i_X7 0 (by decide) (List.mem_of_getElem? (i := 1) rfl) rfl dX7_hire_77 ?_
              refine zr_get (pc := 80) S hK (hP 0 (by decide)) rfl i_X4 2 (by decide) (List.mem_of_getElem? (i := 4) rfl) rfl dX7_hire_80 ?_
              refine zr_get (pc := 83) S hK (hP 3 (by decide)) rfl i_X1 0 (by decide) (List.mem_of_getElem? (i := 5) rfl) rfl dX7_hire_83 ?_
              refine zr_top (b := g 2) (rl_nH hR) ?_
              refine lv_bipush (pc := 86) (v := zI 24) hx hb dX7_hire_86 zc_bipush_24 ?_
              refine zr_icmp_lt (pc := 88) (tgt := 95) hx hb dX7_hire_88 (by decide) (by omega) (by decide) (fun c_88 => ?_) (fun c_88 => ?_)
              · refine lv_aload_n (pc := 95) hx hb dX7_hire_95 rfl (lv_at hl 0 rfl) ?_
                refine zr_get (pc := 96) S hK hY.1 rfl i_X7 1 (by decide) (List.mem_of_getElem? (i := 6) rfl) rfl dX7_hire_96 ?_
                refine lv_aload_n (pc := 99) hx hb dX7_hire_99 rfl (lv_at hl 0 rfl) ?_
                refine zr_get (pc := 100) S hK hY.1 rfl i_X7 0 (by decide) (List.mem_of_getElem? (i := 1) rfl) rfl dX7_hire_100 ?_
                refine zr_vwv (pc := 103) (As := [.ref (ad 0)]) (rest := []) S (ct_X2_remember l D cI cT H.size ad σ σs n m hn hm hJ7) (cwV 1 hts gX7_hire_X2_remember rfl rfl rfl (by decide +kernel) ⟨Nat.le_of_ble_eq_true rfl, Nat.le_of_ble_eq_true rfl⟩) zs0 hK ⟨hP, hH1, hH2, hQ⟩ (zr_recv hK hH1 rfl) hS (fun q h => h.elim (fun z => z.elim (fun e => by rw [e]; exact hA7 125 (by decide)) (fun ⟨j, k, hj, hk, e⟩ => by rw [e]; exact hA7 _ (by omega))) (fun z => hAn q (Nat.le_trans hS.1 z))) rfl hl.1 rfl (Nat.le_of_ble_eq_true rfl) dX7_hire_103 ⟨Nat.le_of_ble_eq_true rfl, Nat.le_of_ble_eq_true rfl⟩ (fun H locs hG hz hk hS => ?_)
                obtain ⟨hH1, hH2, hQ⟩ := hG
                have hP := hP.keep hk (fun k k0 z => z.elim (fun z => z.elim (fun e => absurd (hJ7 k 125 (by omega) (by decide) e) (by omega)) (fun ⟨j, i, hj, hi, e⟩ => hd_ne hJ7 hj hi (by omega) (by omega) e.symm)) (fun y => absurd (hP.lt k0) (Nat.not_lt.mpr y)))
                have hY := hY.keep hk (fun k k0 k1 hlt z => z.elim (fun z => z.elim (fun e => absurd (hJ7 k 125 (by omega) (by decide) e) (by omega)) (fun ⟨j, i, hj, hi, e⟩ => hd_ne hJ7 hj hi (by omega) (by omega) e.symm)) (fun y => absurd hlt (Nat.not_lt.mpr y)))
                have hC := cH_push hC hn hm (rel_cp (σ := σs m) hR)
                rw [hpN_i n hn, nx_i m hm] at hH1
                refine lv_aload_n (pc := 106) hx hb dX7_hire_106 rfl (lv_at hl 0 rfl) ?_
                refine zr_get (pc := 107) S hK hY.1 rfl i_X7 0 (by decide) (List.mem_of_getElem? (i := 1) rfl) rfl dX7_hire_107 ?_
                refine zr_get (pc := 110) S hK (hP 0 (by decide)) rfl i_X4 2 (by decide) (List.mem_of_getElem? (i := 4) rfl) rfl dX7_hire_110 ?_
                refine lv_iload_n (pc := 113) hx hb dX7_hire_113 rfl (lv_at hl 1 rfl) ?_
                refine lv_iload_n (pc := 114) hx hb dX7_hire_114 rfl (lv_at hl 2 rfl) ?_
                refine lv_iload_n (pc := 115) hx hb dX7_hire_115 rfl (lv_at hl 3 rfl) ?_
                refine lv_iload (pc := 116) hx hb dX7_hire_116 (lv_at hl 4 rfl) ?_
                refine zr_vwi (pc := 118) (As := [.int (zI (c)), .int (zI (f)), .int (zI (d)), .int (zI (r))]) (rest := []) S (ct_X1_add l D cI cT H.size ad σ g hR hI hJ c f d r (by omega) (by omega) (by omega) (by omega) (by omega)) (cwV 4 hts gX7_hire_X1_add rfl rfl rfl (by decide +kernel) ⟨Nat.le_of_ble_eq_true rfl, Nat.le_of_ble_eq_true rfl⟩) zs0 hK hP (zr_recv hK (hP 3 (by decide)) rfl) hS (fun q h => h.elim (fun ⟨k, k0, e⟩ => by rw [e]; exact hAin k k0) (fun z => hAn q (Nat.le_trans hS.1 z))) rfl hl.1 rfl (Nat.le_of_ble_eq_true rfl) dX7_hire_118 ⟨Nat.le_of_ble_eq_true rfl, Nat.le_of_ble_eq_true rfl⟩ (fun r_118 H locs hG hz hk hS => ?_)
                have hH1 := hH1.kept (hk _ hH1.lt (fun z => z.elim (fun ⟨i, i0, e⟩ => absurd (hJ7 125 i (by decide) (by omega) e) (by omega)) (fun y => absurd hH1.lt (Nat.not_lt.mpr y))))
                have hH2 := hH2.kept (hk _ hH2.lt (fun z => z.elim (fun ⟨i, i0, e⟩ => absurd (hJ7 126 i (by decide) (by omega) e) (by omega)) (fun y => absurd hH2.lt (Nat.not_lt.mpr y))))
                have hQ : hQs D cI ad _ H := fun j hj => (hQ j hj).keep hk (fun k k0 z => z.elim (fun ⟨i, i0, e⟩ => hd_ne hJ7 hj k0 (by omega) (by omega) e) (fun y => absurd ((hQ j hj).lt k0) (Nat.not_lt.mpr y)))
                have hY := hY.keep hk (fun k k0 k1 hlt z => z.elim (fun ⟨i, i0, e⟩ => absurd (hJ7 k i (by omega) (by omega) e) (by omega)) (fun y => absurd hlt (Nat.not_lt.mpr y)))
                obtain ⟨rfl, σ23, hR23, hP⟩ := hG
                have s5 : mkH g c f d (feeF d r) r 5 = g 5 := by unfold mkH; rw [if_neg (by omega), if_neg (by omega), if_neg (by omega), if_neg (by omega), if_neg (by omega), if_neg (by omega)]
                refine lv_istore (pc := 121) (lv' := [(5, .int (zI (feeF d r))), (0, .ref (ad 120)), (1, .int (zI (c))), (2, .int (zI (f))), (3, .int (zI (d))), (4, .int (zI (r)))]) hx hb dX7_hire_121 hl (by decide) rfl (fun ls hl => ?_)
                refine lv_aload_n (pc := 123) hx hb dX7_hire_123 rfl (lv_at hl 1 rfl) ?_
                refine zr_get (pc := 124) S hK hY.1 rfl i_X7 0 (by decide) (List.mem_of_getElem? (i := 1) rfl) rfl dX7_hire_124 ?_
                refine lv_dup (pc := 127) hx hb dX7_hire_127 rfl ?_
                refine zr_get (pc := 128) S hK (hP 0 (by decide)) rfl i_X4 6 (by decide) (List.mem_of_getElem? (i := 7) rfl) rfl dX7_hire_128 ?_
                refine zr_top (b := (mkH g c f d (feeF d r) r) 5) (rl_fe hR23) ?_
                refine lv_iload (pc := 131) hx hb dX7_hire_131 (lv_at hl 0 rfl) ?_
                refine zr_iadd (pc := 133) (d := ((mkH g c f d (feeF d r) r) 5) + (feeF d r)) hx hb dX7_hire_133 rfl ?_
                refine zr_put (pc := 134) S hK (hP 0 (by decide)) rfl i_X4 tyX4 tyX4_ok nmX4 6 (by decide) (List.mem_of_getElem? (i := 7) rfl) rfl rfl rfl (Nat.le_of_ble_eq_true rfl) hS (hAin 0 (by decide)) dX7_hire_134 (fun H locs hO hz hk hS => ?_)
                have hkk := fun (q : Nat) (h : _) (z : q ≠ ad 0) => hk q h z
                have hH1 := hH1.kept (hkk _ hH1.lt (fun e => absurd (hJ7 125 0 (by decide) (by decide) e) (by decide)))
                have hH2 := hH2.kept (hkk _ hH2.lt (fun e => absurd (hJ7 126 0 (by decide) (by decide) e) (by decide)))
                have hQ : hQs D cI ad _ H := fun j hj => (hQ j hj).keep (A1 := fun q => q = ad 0) (fun q h z => hkk q h z) (fun k k0 e => hd_ne hJ7 hj k0 (by decide) (by omega) e)
                have hY := hY.keep (A := fun q => q = ad 0) (fun q h z => hkk q h z) (fun k k0 k1 _ e => absurd (hJ7 k 0 (by omega) (by decide) e) (by omega))
                have hP := zW.put hP hJ 0 (by decide) hO hk (sC_0_2 (((mkH g c f d (feeF d r) r) 5) + (feeF d r)))
                refine lv_iload (pc := 137) hx hb dX7_hire_137 (lv_at hl 0 rfl) ?_
                exact W.iret (v := zI (feeF d r)) hx hb hr (fun tz ht hW => ⟨⟨zI (feeF d r), zI (feeF d r), rfl, rfl, by dsimp only; rw [ht]; exact ⟨_, _, _, _, _, _, ⟨rel_fe hR23 (inv_mkH hI (by omega) (by omega) (by omega) (by omega) (by have := feeF_bd (n := d) (r := r) (by omega) (by omega) (by omega) (by omega); omega) (by omega)), hC, hpN_le n, Nat.mod_lt _ (by decide)⟩, oR_ok ((tft (by omega)).trans ((tft (by first | exact hn_66 | omega)).trans (tft (by omega)))) (rfl) (by rw [s5]), hP, hH1, hH2, hQ, hY⟩⟩, hS.F ht⟩) hS.2.2 dX7_hire_139
              · refine lv_sipush (pc := 91) (v := zI (-2003)) hx hb dX7_hire_91 zc_sipush_m2003 ?_
                exact W.iret (v := zI ((-2003))) hx hb hr (fun tz ht hW => ⟨⟨zI ((-2003)), zI ((-2003)), rfl, rfl, by dsimp only; rw [ht]; exact ⟨_, _, _, _, _, _, ⟨hR, hC, hn, hm⟩, oR_no ((tft (by omega)).trans ((tft (by first | exact hn_66 | omega)).trans (tff (by omega)))) (by decide), hP, hH1, hH2, hQ, hY⟩⟩, hS.F ht⟩) hS.2.2 dX7_hire_94
            · refine lv_sipush (pc := 72) (v := zI (-2002)) hx hb dX7_hire_72 zc_sipush_m2002 ?_
              exact W.iret (v := zI ((-2002))) hx hb hr (fun tz ht hW => ⟨⟨zI ((-2002)), zI ((-2002)), rfl, rfl, by dsimp only; rw [ht]; exact ⟨_, _, _, _, _, _, ⟨hR, hC, hn, hm⟩, oR_no ((tft (by omega)).trans (tff (fun q => by first | exact q ⟨_, hh_66, hi_66, ho_66⟩ | omega))) (by decide), hP, hH1, hH2, hQ, hY⟩⟩, hS.F ht⟩) hS.2.2 dX7_hire_75
        · refine zr_if_ne (pc := 49) (tgt := 56) hx hb dX7_hire_49 (by decide) (by decide) (fun z => absurd z (by decide)) (fun _ => ?_)
          refine lv_sipush (pc := 52) (v := zI (-2001)) hx hb dX7_hire_52 zc_sipush_m2001 ?_
          exact W.iret (v := zI ((-2001))) hx hb hr (fun tz ht hW => ⟨⟨zI ((-2001)), zI ((-2001)), rfl, rfl, by dsimp only; rw [ht]; exact ⟨_, _, _, _, _, _, ⟨hR, hC, hn, hm⟩, oR_no (tff (fun q => by omega)) (by decide), hP, hH1, hH2, hQ, hY⟩⟩, hS.F ht⟩) hS.2.2 dX7_hire_55
      · refine zr_if_eq (pc := 38) (tgt := 52) hx hb dX7_hire_38 (by decide) (by decide) (fun _ => ?_) (fun z => absurd z (by decide))
        refine lv_sipush (pc := 52) (v := zI (-2001)) hx hb dX7_hire_52 zc_sipush_m2001 ?_
        exact W.iret (v := zI ((-2001))) hx hb hr (fun tz ht hW => ⟨⟨zI ((-2001)), zI ((-2001)), rfl, rfl, by dsimp only; rw [ht]; exact ⟨_, _, _, _, _, _, ⟨hR, hC, hn, hm⟩, oR_no (tff (fun q => by omega)) (by decide), hP, hH1, hH2, hQ, hY⟩⟩, hS.F ht⟩) hS.2.2 dX7_hire_55
    · refine zr_if_eq (pc := 28) (tgt := 52) hx hb dX7_hire_28 (by decide) (by decide) (fun _ => ?_) (fun z => absurd z (by decide))
      refine lv_sipush (pc := 52) (v := zI (-2001)) hx hb dX7_hire_52 zc_sipush_m2001 ?_
      exact W.iret (v := zI ((-2001))) hx hb hr (fun tz ht hW => ⟨⟨zI ((-2001)), zI ((-2001)), rfl, rfl, by dsimp only; rw [ht]; exact ⟨_, _, _, _, _, _, ⟨hR, hC, hn, hm⟩, oR_no (tff (fun q => by omega)) (by decide), hP, hH1, hH2, hQ, hY⟩⟩, hS.F ht⟩) hS.2.2 dX7_hire_55
  · refine zr_if_eq (pc := 11) (tgt := 52) hx hb dX7_hire_11 (by decide) (by decide) (fun _ => ?_) (fun z => absurd z (by decide))
    refine lv_sipush (pc := 52) (v := zI (-2001)) hx hb dX7_hire_52 zc_sipush_m2001 ?_
    exact W.iret (v := zI ((-2001))) hx hb hr (fun tz ht hW => ⟨⟨zI ((-2001)), zI ((-2001)), rfl, rfl, by dsimp only; rw [ht]; exact ⟨_, _, _, _, _, _, ⟨hR, hC, hn, hm⟩, oR_no (tff (fun q => by omega)) (by decide), hP, hH1, hH2, hQ, hY⟩⟩, hS.F ht⟩) hS.2.2 dX7_hire_55
