set_option maxHeartbeats 4000000 in
set_option maxRecDepth 100000 in
theorem ct_X3_readItem (l : Launch) (D : va_G) (cI cT : ClassId) (sz : Nat) (ad : Nat → Nat) (tl : Int) (tx : Int → Int) (i c a : Int) (rp : Int → Int) (hJ7 : zJ ad 127) (t0 : 0 ≤ tl) (t1 : tl ≤ 120) (htx : ∀ i : Int, 0 ≤ i → i < tl → 1 ≤ tx i ∧ tx i ≤ 255) (bs : Nat) (hb3 : bs ≤ ad 123) (hb4 : bs ≤ ad 124) (g : Int → Int) (hI : Inv g) (p : Int) (p0 : 0 ≤ p) (p1 : p ≤ tl) (i0 : 0 ≤ i) (hc : c = 16 - g 0) (ha : a = 8 - g 1) (hsum : i + c + a ≤ 24) : zMi l yX3_readItem wsX3_readItem ({ frames := 6, cells := 0, slots := 0, locals := 128 }) D cI cT [.ref (ad 123)] sz (fun U H => cY D cI ad tl tx (rD i (tS tx tl p) (tE tx tl p) (tK tx tl p) c a) rp H ∧ zSt bs U H) (fun rr H => ∃ (sa' e' t' c' a' : Int) (rp' : Int → Int), cY D cI ad tl tx (rD i sa' e' t' c' a') rp' H ∧ ((itO tx tl g p ∧ rr = zI 1 ∧ e' = itN tx tl p ∧ c' = 16 - itG tx tl g p 0 ∧ a' = 8 - itG tx tl g p 1 ∧ rpI tx tl p i rp') ∨ (itB tx tl g p sa' ∧ rr = zI 0)) ∧ ∀ x : Int, x < i * 7 → rp' x = rp x) (fun q => (q = ad 123 ∨ q = ad 124) ∨ sz ≤ q) := by
  refine Met.ofW (cc := cX3_readItem) (maxL := 4) (ret := (some .boolean)) (by decide) rfl ?_
  intro p_ e_ s m_ args below meth c_ s₁ B hml hv
  obtain ⟨rfl, hsz, hK, hF⟩ := hv
  have hx := B.exec
  have hb := B.bytes
  have hr := B.returns
  have hts := atoms_spec (ws := wsX3_readItem) B.pre
  have hown : s.vm.findClass RX3 = some m_.cls := findClass_of_methodNamed B.named
  have hlocks := B.notSynchronized
  have S : CallFix p_ m_ c_ cX3_readItem 4 s _ wsX3_readItem RX3 := ⟨hx, hb, hml, hown, hts⟩
  have i_X3 : ∀ w ∈ u_ws RX3 TX3 8, w ∈ wsX3_readItem := fun _ h => List.mem_cons_of_mem _ (List.mem_append_left _ (List.mem_append_right _ h))
  have i_X5 : ∀ w ∈ u_ws RX5 TX5 2, w ∈ wsX3_readItem := fun _ h => List.mem_cons_of_mem _ (List.mem_append_right _ h)
  subst hsz
  generalize hAe : (fun q => (q = ad 123 ∨ q = ad 124) ∨ s.heap.size ≤ q) = A
  have hAn : ∀ q : Nat, s.heap.size ≤ q → A q := fun q h => by rw [← hAe]; exact Or.inr h
  obtain ⟨H, hHe⟩ : ∃ H : Heap, H = s.heap := ⟨_, rfl⟩
  rw [← hHe] at hF ⊢
  have hS : va_S A s.heap H [] := by rw [hHe]; exact va_S.rf
  have hE := hF.2
  replace hF := hF.1
  have hY := hF
  have hA123 : A (ad 123) := by rw [← hAe]; exact Or.inl (Or.inl rfl)
  have hA124 : A (ad 124) := by rw [← hAe]; exact Or.inl (Or.inr rfl)
  obtain ⟨q0, q1, q2, v0, v1, v2, hEC, hEA, hED, hR0, hR1, hR2⟩ := hE
  have hnC := iv_nC hI
  have hnA := iv_nA hI
  have htb := tE_bd (tx := tx) p0 p1
  have htk := tK_bd tx tl p
  have hl := lv_entry ([.ref (ad 123)]) (n := 4) (Nat.le_of_ble_eq_true rfl)
  rw [lg_entry_eq]
  generalize (lg_sl ([.ref (ad 123)]) ++ List.replicate (4 - (lg_sl ([.ref (ad 123)])).length) Slot.unset).toArray = ls at hl ⊢
  have hl : lv_has ls 4 [(0, .ref (ad 123))] := hl
  refine lv_aload_n (pc := 0) hx hb dX3_readItem_0 rfl (lv_at hl 0 rfl) ?_
  refine va_ldcS (pc := 1) hx hb hown hR0 dX3_readItem_1 ?_
  refine zr_vi (pc := 3) (As := [.ref (q0)]) (rest := []) S (ct_X3_isWord l D cI cT ad tl tx i (tS tx tl p) (tE tx tl p) (tK tx tl p) c a rp t0 t1 htx bs q0 v0 wdC (by decide) wdC_ch (by omega) (by omega)) (cwV 1 hts gX3_readItem_X3_isWord rfl rfl rfl (by decide +kernel) ⟨Nat.le_of_ble_eq_true rfl, Nat.le_of_ble_eq_true rfl⟩) zs_SoG hK ⟨hY, hEC⟩ (zr_recv hK hY.2.2.2.1 rfl) rfl hl.1 rfl (Nat.le_of_ble_eq_true rfl) dX3_readItem_3 ⟨Nat.le_of_ble_eq_true rfl, Nat.le_of_ble_eq_true rfl⟩ (fun r_3 hr_3 => ?_)
  rcases hr_3 with ⟨hb_3, rfl⟩ | ⟨hb_3, rfl⟩
  · have hw_3 : tW tx tl p wdC := hb_3
    refine lv_istore_n (pc := 6) (lv' := [(1, .int (zI (1))), (0, .ref (ad 123))]) hx hb dX3_readItem_6 rfl hl (by decide) rfl (fun ls hl => ?_)
    refine lv_iload_n (pc := 7) hx hb dX3_readItem_7 rfl (lv_at hl 0 rfl) ?_
    refine zr_if_ne (pc := 8) (tgt := 20) hx hb dX3_readItem_8 (by decide) (by decide) (fun _ => ?_) (fun z => absurd z (by decide))
    refine lv_aload_n (pc := 20) hx hb dX3_readItem_20 rfl (lv_at hl 1 rfl) ?_
    refine lv_iload_n (pc := 21) hx hb dX3_readItem_21 rfl (lv_at hl 0 rfl) ?_
    refine zr_vwi (pc := 22) (As := [.int (zI (1))]) (rest := []) S (ct_X3_takePlace l D cI cT H.size ad tl tx i (tS tx tl p) (tE tx tl p) (tK tx tl p) c a rp hJ7 1 (by decide) (by omega) (by omega)) (cwV 1 hts gX3_readItem_X3_takePlace rfl rfl rfl (by decide +kernel) ⟨Nat.le_of_ble_eq_true rfl, Nat.le_of_ble_eq_true rfl⟩) zs0 hK hY (zr_recv hK hY.2.2.2.1 rfl) hS (fun q h => h.elim (fun z => z.elim (fun e => by rw [e]; exact hA123) (fun e => by rw [e]; exact hA124)) (fun z => hAn q (Nat.le_trans hS.1 z))) rfl hl.1 rfl (Nat.le_of_ble_eq_true rfl) dX3_readItem_22 ⟨Nat.le_of_ble_eq_true rfl, Nat.le_of_ble_eq_true rfl⟩ (fun r_22 H locs hG hz hk hS => ?_)
    have hr_22 := (tkp1 hG).1
    have hY := (tkp1 hG).2
    have hkE := fun (q : Nat) (h1 : _) (h2 : ¬ bs ≤ q) => hk q h1 (fun z => z.elim (fun z => z.elim (fun e => h2 (by rw [e]; exact hb3)) (fun e => h2 (by rw [e]; exact hb4))) (fun y => absurd h1 (Nat.not_lt.mpr y)))
    have hEC := hEC.kept hkE
    have hEA := hEA.kept hkE
    have hED := hED.kept hkE
    rcases hr_22 with ⟨hb_22, rfl⟩ | ⟨hb_22, rfl⟩
    · refine zr_if_ne (pc := 25) (tgt := 30) hx hb dX3_readItem_25 (by decide) (by decide) (fun _ => ?_) (fun z => absurd z (by decide))
      have hHD : hdO tx tl g p := Or.inl ⟨hw_3, by omega⟩
      have hnN : nN tx tl p = 5 := nN_c hw_3
      refine lv_aload_n (pc := 30) hx hb dX3_readItem_30 rfl (lv_at hl 1 rfl) ?_
      refine lv_iconst (pc := 31) (v := zI 0) hx hb dX3_readItem_31 rfl ?_
      refine lv_iload_n (pc := 32) hx hb dX3_readItem_32 rfl (lv_at hl 0 rfl) ?_
      refine zr_if_eq (pc := 33) (tgt := 40) hx hb dX3_readItem_33 (by decide) (by decide) (fun z => absurd z (by decide)) (fun _ => ?_)
      refine lv_iconst (pc := 36) (v := zI 0) hx hb dX3_readItem_36 rfl ?_
      refine lv_goto (pc := 37) (tgt := 41) hx hb dX3_readItem_37 (by decide) ?_
      refine zr_vwv (pc := 41) (As := [.int (zI (0)), .int (zI (0))]) (rest := []) S (ct_X3_keep l D cI cT H.size ad tl tx i (tS tx tl p) (tE tx tl p) (tK tx tl p) (c - 1) a rp hJ7 0 0 (by omega) (by omega) (by omega) (by omega)) (cwV 2 hts gX3_readItem_X3_keep rfl rfl rfl (by decide +kernel) ⟨Nat.le_of_ble_eq_true rfl, Nat.le_of_ble_eq_true rfl⟩) zs0 hK hY (zr_recv hK hY.2.2.2.1 rfl) hS (fun q h => h.elim (fun z => z.elim (fun e => by rw [e]; exact hA123) (fun e => by rw [e]; exact hA124)) (fun z => hAn q (Nat.le_trans hS.1 z))) rfl hl.1 rfl (Nat.le_of_ble_eq_true rfl) dX3_readItem_41 ⟨Nat.le_of_ble_eq_true rfl, Nat.le_of_ble_eq_true rfl⟩ (fun H locs hG hz hk hS => ?_)
      have hY := hG
      have hkE := fun (q : Nat) (h1 : _) (h2 : ¬ bs ≤ q) => hk q h1 (fun z => z.elim (fun z => z.elim (fun e => h2 (by rw [e]; exact hb3)) (fun e => h2 (by rw [e]; exact hb4))) (fun y => absurd h1 (Nat.not_lt.mpr y)))
      have hEC := hEC.kept hkE
      have hEA := hEA.kept hkE
      have hED := hED.kept hkE
      refine lv_iload_n (pc := 44) hx hb dX3_readItem_44 rfl (lv_at hl 0 rfl) ?_
      refine zr_if_eq (pc := 45) (tgt := 52) hx hb dX3_readItem_45 (by decide) (by decide) (fun z => absurd z (by decide)) (fun _ => ?_)
      refine lv_iconst (pc := 48) (v := zI 5) hx hb dX3_readItem_48 rfl ?_
      refine lv_goto (pc := 49) (tgt := 53) hx hb dX3_readItem_49 (by decide) ?_
      refine lv_istore_n (pc := 53) (lv' := [(2, .int (zI (5))), (1, .int (zI (1))), (0, .ref (ad 123))]) hx hb dX3_readItem_53 rfl hl (by decide) rfl (fun ls hl => ?_)
      refine lv_iconst (pc := 54) (v := zI 1) hx hb dX3_readItem_54 rfl ?_
      refine zr_top (b := ((0 : Nat) : Int) + 1) (by omega) ?_
      refine lv_istore_n (pc := 55) (lv' := [(3, .int (zI (((0 : Nat) : Int) + 1))), (2, .int (zI (5))), (1, .int (zI (1))), (0, .ref (ad 123))]) hx hb dX3_readItem_55 rfl hl (by decide) rfl (fun ls hl => ?_)
      refine zr_hloop2 (fun (j : Nat) (rpj : Int → Int) (H : Heap) => ((j : Int) ≤ 5) ∧ (∀ m : Nat, 1 ≤ m → m ≤ j → okN tx tl p m) ∧ (rpj (i * 7 + 0) = 0) ∧ (∀ m : Nat, 1 ≤ m → m ≤ j → rpj (i * 7 + (m : Int)) = vN tx tl p m) ∧ (∀ x : Int, x < i * 7 → rpj x = rp x) ∧ (cY D cI ad tl tx (rD i (tS tx tl (tP tx tl p j)) (tE tx tl (tP tx tl p j)) (tK tx tl (tP tx tl p j)) (c - 1) a) rpj H) ∧ (zSo bs q0 v0 wdC s H) ∧ (zSo bs q1 v1 wdA s H) ∧ (zSo bs q2 v2 wdD s H)) (fun (j : Nat) (rpj : Int → Int) => 5 - j) (fun (j : Nat) (rpj : Int → Int) => [(2, .int (zI (5))), (1, .int (zI (1))), (0, .ref (ad 123)), (3, .int (zI ((j : Int) + 1)))]) ?_ (0) ((zu rp (i * 7 + 0) 0)) (⟨by decide, fun m m0 m1 => absurd m1 (by omega), zu_s _ _ _, fun m m0 m1 => absurd m1 (by omega), fun x hx => zu_n (by omega), hY, hEC, hEA, hED⟩) hS (lv_sub hl [1, 2, 3, 0] rfl)
      intro j rpj H locs hinv hS ih_56 ls hl
      obtain ⟨hj, hok, hrk, hrv, hro, hY, hEC, hEA, hED⟩ := hinv
      have hpj := tP_bd (tx := tx) p0 p1 (j + 1)
      rw [tP_s] at hpj
      refine lv_iload_n (pc := 56) hx hb dX3_readItem_56 rfl (lv_at hl 3 rfl) ?_
      refine lv_iload_n (pc := 57) hx hb dX3_readItem_57 rfl (lv_at hl 0 rfl) ?_
      refine zr_icmp_gt (pc := 58) (tgt := 77) hx hb dX3_readItem_58 (by decide) (by omega) (by decide) (fun c_58 => ?_) (fun c_58 => ?_)
      · have ej : j = 5 := by omega
        subst ej
        rw [← pL_c hw_3] at hY
        have hpl := pL_bd (tx := tx) p0 p1
        refine lv_aload_n (pc := 77) hx hb dX3_readItem_77 rfl (lv_at hl 2 rfl) ?_
        refine zr_vwv (pc := 78) (As := []) (rest := []) S (ct_X3_nextToken l D cI cT H.size ad tl tx i (tS tx tl (tP tx tl p 5)) (tK tx tl (tP tx tl p 5)) (c - 1) a rpj hJ7 t0 t1 htx (pL tx tl p) (by omega) (by omega)) (cwV 0 hts gX3_readItem_X3_nextToken rfl rfl rfl (by decide +kernel) ⟨Nat.le_of_ble_eq_true rfl, Nat.le_of_ble_eq_true rfl⟩) zs0 hK hY (zr_recv hK hY.2.2.2.1 rfl) hS (fun q h => h.elim (fun z => z.elim (fun e => by rw [e]; exact hA123) (fun e => by rw [e]; exact hA124)) (fun z => hAn q (Nat.le_trans hS.1 z))) rfl hl.1 rfl (Nat.le_of_ble_eq_true rfl) dX3_readItem_78 ⟨Nat.le_of_ble_eq_true rfl, Nat.le_of_ble_eq_true rfl⟩ (fun H locs hG hz hk hS => ?_)
        have hY := hG
        have hkE := fun (q : Nat) (h1 : _) (h2 : ¬ bs ≤ q) => hk q h1 (fun z => z.elim (fun z => z.elim (fun e => h2 (by rw [e]; exact hb3)) (fun e => h2 (by rw [e]; exact hb4))) (fun y => absurd h1 (Nat.not_lt.mpr y)))
        have hEC := hEC.kept hkE
        have hEA := hEA.kept hkE
        have hED := hED.kept hkE
        have htb2 := tE_bd (tx := tx) (tl := tl) (p := pL tx tl p) (by omega) (by omega)
        have htk2 := tK_bd tx tl (pL tx tl p)
        refine lv_iload_n (pc := 81) hx hb dX3_readItem_81 rfl (lv_at hl 1 rfl) ?_
        refine zr_if_eq (pc := 82) (tgt := 98) hx hb dX3_readItem_82 (by decide) (by decide) (fun z => absurd z (by decide)) (fun _ => ?_)
        refine lv_aload_n (pc := 85) hx hb dX3_readItem_85 rfl (lv_at hl 2 rfl) ?_
        refine va_ldcS (pc := 86) hx hb hown hR2 dX3_readItem_86 ?_
        refine zr_vi (pc := 88) (As := [.ref (q2)]) (rest := []) S (ct_X3_isWord l D cI cT ad tl tx i (tS tx tl (pL tx tl p)) (tE tx tl (pL tx tl p)) (tK tx tl (pL tx tl p)) (c - 1) a rpj t0 t1 htx bs q2 v2 wdD (by decide) wdD_ch (by omega) (by omega)) (cwV 1 hts gX3_readItem_X3_isWord rfl rfl rfl (by decide +kernel) ⟨Nat.le_of_ble_eq_true rfl, Nat.le_of_ble_eq_true rfl⟩) zs_SoG hK ⟨hY, hED⟩ (zr_recv hK hY.2.2.2.1 rfl) rfl hl.1 rfl (Nat.le_of_ble_eq_true rfl) dX3_readItem_88 ⟨Nat.le_of_ble_eq_true rfl, Nat.le_of_ble_eq_true rfl⟩ (fun r_88 hr_88 => ?_)
        rcases hr_88 with ⟨hb_88, rfl⟩ | ⟨hb_88, rfl⟩
        · have hw_88 : tW tx tl (pL tx tl p) wdD := hb_88
          refine zr_if_eq (pc := 91) (tgt := 98) hx hb dX3_readItem_91 (by decide) (by decide) (fun z => absurd z (by decide)) (fun _ => ?_)
          refine lv_iconst (pc := 94) (v := zI 1) hx hb dX3_readItem_94 rfl ?_
          refine lv_goto (pc := 95) (tgt := 99) hx hb dX3_readItem_95 (by decide) ?_
          skip
          refine lv_istore_n (pc := 99) (lv' := [(3, .int (zI (1))), (2, .int (zI (5))), (1, .int (zI (1))), (0, .ref (ad 123))]) hx hb dX3_readItem_99 rfl hl (by decide) rfl (fun ls hl => ?_)
          refine lv_aload_n (pc := 100) hx hb dX3_readItem_100 rfl (lv_at hl 3 rfl) ?_
          refine lv_bipush (pc := 101) (v := zI 6) hx hb dX3_readItem_101 zc_bipush_6 ?_
          refine lv_iload_n (pc := 103) hx hb dX3_readItem_103 rfl (lv_at hl 0 rfl) ?_
          refine zr_if_eq (pc := 104) (tgt := 111) hx hb dX3_readItem_104 (by decide) (by decide) (fun z => absurd z (by decide)) (fun _ => ?_)
          refine lv_iconst (pc := 107) (v := zI 1) hx hb dX3_readItem_107 rfl ?_
          refine lv_goto (pc := 108) (tgt := 112) hx hb dX3_readItem_108 (by decide) ?_
          skip
          refine zr_vwv (pc := 112) (As := [.int (zI (6)), .int (zI (1))]) (rest := []) S (ct_X3_keep l D cI cT H.size ad tl tx i (tS tx tl (pL tx tl p)) (tE tx tl (pL tx tl p)) (tK tx tl (pL tx tl p)) (c - 1) a rpj hJ7 6 1 (by omega) (by omega) (by omega) (by omega)) (cwV 2 hts gX3_readItem_X3_keep rfl rfl rfl (by decide +kernel) ⟨Nat.le_of_ble_eq_true rfl, Nat.le_of_ble_eq_true rfl⟩) zs0 hK hY (zr_recv hK hY.2.2.2.1 rfl) hS (fun q h => h.elim (fun z => z.elim (fun e => by rw [e]; exact hA123) (fun e => by rw [e]; exact hA124)) (fun z => hAn q (Nat.le_trans hS.1 z))) rfl hl.1 rfl (Nat.le_of_ble_eq_true rfl) dX3_readItem_112 ⟨Nat.le_of_ble_eq_true rfl, Nat.le_of_ble_eq_true rfl⟩ (fun H locs hG hz hk hS => ?_)
          have hY := hG
          have hkE := fun (q : Nat) (h1 : _) (h2 : ¬ bs ≤ q) => hk q h1 (fun z => z.elim (fun z => z.elim (fun e => h2 (by rw [e]; exact hb3)) (fun e => h2 (by rw [e]; exact hb4))) (fun y => absurd h1 (Nat.not_lt.mpr y)))
          have hEC := hEC.kept hkE
          have hEA := hEA.kept hkE
          have hED := hED.kept hkE
          have hdk : dK tx tl p := ⟨hw_3, hw_88⟩
          refine lv_iload_n (pc := 115) hx hb dX3_readItem_115 rfl (lv_at hl 0 rfl) ?_
          refine zr_if_eq (pc := 116) (tgt := 123) hx hb dX3_readItem_116 (by decide) (by decide) (fun z => absurd z (by decide)) (fun _ => ?_)
          refine lv_aload_n (pc := 119) hx hb dX3_readItem_119 rfl (lv_at hl 3 rfl) ?_
          refine zr_vwv (pc := 120) (As := []) (rest := []) S (ct_X3_nextToken l D cI cT H.size ad tl tx i (tS tx tl (pL tx tl p)) (tK tx tl (pL tx tl p)) (c - 1) a ((zu rpj (i * 7 + 6) 1)) hJ7 t0 t1 htx (tE tx tl (pL tx tl p)) (by omega) (by omega)) (cwV 0 hts gX3_readItem_X3_nextToken rfl rfl rfl (by decide +kernel) ⟨Nat.le_of_ble_eq_true rfl, Nat.le_of_ble_eq_true rfl⟩) zs0 hK hY (zr_recv hK hY.2.2.2.1 rfl) hS (fun q h => h.elim (fun z => z.elim (fun e => by rw [e]; exact hA123) (fun e => by rw [e]; exact hA124)) (fun z => hAn q (Nat.le_trans hS.1 z))) rfl hl.1 rfl (Nat.le_of_ble_eq_true rfl) dX3_readItem_120 ⟨Nat.le_of_ble_eq_true rfl, Nat.le_of_ble_eq_true rfl⟩ (fun H locs hG hz hk hS => ?_)
          have hY := hG
          have hkE := fun (q : Nat) (h1 : _) (h2 : ¬ bs ≤ q) => hk q h1 (fun z => z.elim (fun z => z.elim (fun e => h2 (by rw [e]; exact hb3)) (fun e => h2 (by rw [e]; exact hb4))) (fun y => absurd h1 (Nat.not_lt.mpr y)))
          have hEC := hEC.kept hkE
          have hEA := hEA.kept hkE
          have hED := hED.kept hkE
          have htb3 := tE_bd (tx := tx) (tl := tl) (p := tE tx tl (pL tx tl p)) (by omega) (by omega)
          have htk3 := tK_bd tx tl (tE tx tl (pL tx tl p))
          refine lv_aload_n (pc := 123) hx hb dX3_readItem_123 rfl (lv_at hl 3 rfl) ?_
          refine zr_get (pc := 124) S hK hY.2.2.2.1 rfl i_X3 3 (by decide) (List.mem_of_getElem? (i := 1) rfl) rfl dX3_readItem_124 ?_
          refine zr_top (b := tK tx tl (tE tx tl (pL tx tl p))) rD_3 ?_
          refine lv_iconst (pc := 127) (v := zI 3) hx hb dX3_readItem_127 rfl ?_
          refine zr_icmp_ne (pc := 128) (tgt := 154) hx hb dX3_readItem_128 (by decide) (by omega) (by decide) (fun c_128 => ?_) (fun c_128 => ?_)
          · refine lv_iconst (pc := 154) (v := zI 0) hx hb dX3_readItem_154 rfl ?_
            exact W.zret (ty := .boolean) (v := zI (0)) hx hb hr (by first | rfl | decide) (fun tz ht hW => ⟨⟨zI (0), zI (0), rfl, rfl, by dsimp only; rw [ht]; exact ⟨_, _, _, _, _, _, hY, Or.inr ⟨Or.inr (Or.inr ⟨hHD, fun k k1 k2 => hok k k1 (by omega), by rw [pE_d hdk]; exact fun z => by first | exact c_128 z.1 | exact c_147 z.2, by rw [pE_d hdk]⟩), rfl⟩, fun x hx => by rw [zu_n (by omega)]; exact hro x hx⟩⟩, hS.F ht⟩) hS.2.2 dX3_readItem_155
          · refine lv_aload_n (pc := 131) hx hb dX3_readItem_131 rfl (lv_at hl 3 rfl) ?_
            refine zr_get (pc := 132) S hK hY.2.2.2.1 rfl i_X3 6 (by decide) (List.mem_of_getElem? (i := 2) rfl) rfl dX3_readItem_132 ?_
            refine zr_get (pc := 135) S hK hY.2.1 rfl i_X5 1 (by decide) (List.mem_of_getElem? (i := 3) rfl) rfl dX3_readItem_135 ?_
            have hts3 := htx (tS tx tl (tE tx tl (pL tx tl p))) (by omega) (by omega)
            refine lv_aload_n (pc := 138) hx hb dX3_readItem_138 rfl (lv_at hl 3 rfl) ?_
            skip
            refine zr_get (pc := 139) S hK hY.2.2.2.1 rfl i_X3 1 (by decide) (List.mem_of_getElem? (i := 4) rfl) rfl dX3_readItem_139 ?_
            refine zr_top (b := tS tx tl (tE tx tl (pL tx tl p))) rD_1 ?_
            refine zr_ni (pc := 142) (As := [.ref (ad 122), .int (zI (tS tx tl (tE tx tl (pL tx tl p))))]) (rest := []) S (ct_X7_at l D cI cT (ad 122) 120 _ (tS tx tl (tE tx tl (pL tx tl p))) (tx (tS tx tl (tE tx tl (pL tx tl p)))) (by decide) (by omega) (by omega) (rfl) (by omega)) (va_cnB 2 hts gX3_readItem_X7_at_n19 rfl rfl rfl (zK_nest hK 15 rfl) (hts _ (List.mem_of_getElem? (i := 24) rfl)) (by decide +kernel) ⟨Nat.le_of_ble_eq_true rfl, Nat.le_of_ble_eq_true rfl⟩) (hts _ (List.mem_of_getElem? (i := 23) rfl)) zs_ar hK (zAr_of (zK_int hK) hY.2.2.1) rfl hl.1 rfl (Nat.le_of_ble_eq_true rfl) dX3_readItem_142 ⟨Nat.le_of_ble_eq_true rfl, Nat.le_of_ble_eq_true rfl⟩ (fun r_142 hr_142 => ?_)
            subst hr_142
            refine lv_bipush (pc := 145) (v := zI 59) hx hb dX3_readItem_145 zc_bipush_59 ?_
            refine zr_icmp_ne (pc := 147) (tgt := 154) hx hb dX3_readItem_147 (by decide) (by omega) (by decide) (fun c_147 => ?_) (fun c_147 => ?_)
            · refine lv_iconst (pc := 154) (v := zI 0) hx hb dX3_readItem_154 rfl ?_
              exact W.zret (ty := .boolean) (v := zI (0)) hx hb hr (by first | rfl | decide) (fun tz ht hW => ⟨⟨zI (0), zI (0), rfl, rfl, by dsimp only; rw [ht]; exact ⟨_, _, _, _, _, _, hY, Or.inr ⟨Or.inr (Or.inr ⟨hHD, fun k k1 k2 => hok k k1 (by omega), by rw [pE_d hdk]; exact fun z => by first | exact c_128 z.1 | exact c_147 z.2, by rw [pE_d hdk]⟩), rfl⟩, fun x hx => by rw [zu_n (by omega)]; exact hro x hx⟩⟩, hS.F ht⟩) hS.2.2 dX3_readItem_155
            · refine lv_iconst (pc := 150) (v := zI 1) hx hb dX3_readItem_150 rfl ?_
              refine lv_goto (pc := 151) (tgt := 155) hx hb dX3_readItem_151 (by decide) ?_
              exact W.zret (ty := .boolean) (v := zI (1)) hx hb hr (by first | rfl | decide) (fun tz ht hW => ⟨⟨zI (1), zI (1), rfl, rfl, by dsimp only; rw [ht]; exact ⟨_, _, _, _, _, _, hY, Or.inl ⟨⟨hHD, fun k k1 k2 => hok k k1 (by omega), by rw [pE_d hdk]; exact ⟨c_128, c_147⟩⟩, rfl, by unfold itN; rw [pE_d hdk], by rw [itG_c hw_3, mkC_0]; omega, by rw [itG_c hw_3, mkC_o hnC.1 (by decide) (by omega)]; omega, ⟨fun _ => ⟨by rw [zu_n (by omega)]; exact hrk, fun k k1 k2 => by rw [zu_n (by omega)]; exact hrv k k1 (by omega), by rw [zu_s, ti_t hdk]⟩, fun z => absurd hw_3 z⟩⟩, fun x hx => by rw [zu_n (by omega)]; exact hro x hx⟩⟩, hS.F ht⟩) hS.2.2 dX3_readItem_155
        · have hw_88 : ¬ tW tx tl (pL tx tl p) wdD := hb_88
          refine zr_if_eq (pc := 91) (tgt := 98) hx hb dX3_readItem_91 (by decide) (by decide) (fun _ => ?_) (fun z => absurd z (by decide))
          refine lv_iconst (pc := 98) (v := zI 0) hx hb dX3_readItem_98 rfl ?_
          skip
          refine lv_istore_n (pc := 99) (lv' := [(3, .int (zI (0))), (2, .int (zI (5))), (1, .int (zI (1))), (0, .ref (ad 123))]) hx hb dX3_readItem_99 rfl hl (by decide) rfl (fun ls hl => ?_)
          refine lv_aload_n (pc := 100) hx hb dX3_readItem_100 rfl (lv_at hl 3 rfl) ?_
          refine lv_bipush (pc := 101) (v := zI 6) hx hb dX3_readItem_101 zc_bipush_6 ?_
          refine lv_iload_n (pc := 103) hx hb dX3_readItem_103 rfl (lv_at hl 0 rfl) ?_
          refine zr_if_eq (pc := 104) (tgt := 111) hx hb dX3_readItem_104 (by decide) (by decide) (fun _ => ?_) (fun z => absurd z (by decide))
          refine lv_iconst (pc := 111) (v := zI 0) hx hb dX3_readItem_111 rfl ?_
          skip
          refine zr_vwv (pc := 112) (As := [.int (zI (6)), .int (zI (0))]) (rest := []) S (ct_X3_keep l D cI cT H.size ad tl tx i (tS tx tl (pL tx tl p)) (tE tx tl (pL tx tl p)) (tK tx tl (pL tx tl p)) (c - 1) a rpj hJ7 6 0 (by omega) (by omega) (by omega) (by omega)) (cwV 2 hts gX3_readItem_X3_keep rfl rfl rfl (by decide +kernel) ⟨Nat.le_of_ble_eq_true rfl, Nat.le_of_ble_eq_true rfl⟩) zs0 hK hY (zr_recv hK hY.2.2.2.1 rfl) hS (fun q h => h.elim (fun z => z.elim (fun e => by rw [e]; exact hA123) (fun e => by rw [e]; exact hA124)) (fun z => hAn q (Nat.le_trans hS.1 z))) rfl hl.1 rfl (Nat.le_of_ble_eq_true rfl) dX3_readItem_112 ⟨Nat.le_of_ble_eq_true rfl, Nat.le_of_ble_eq_true rfl⟩ (fun H locs hG hz hk hS => ?_)
          have hY := hG
          have hkE := fun (q : Nat) (h1 : _) (h2 : ¬ bs ≤ q) => hk q h1 (fun z => z.elim (fun z => z.elim (fun e => h2 (by rw [e]; exact hb3)) (fun e => h2 (by rw [e]; exact hb4))) (fun y => absurd h1 (Nat.not_lt.mpr y)))
          have hEC := hEC.kept hkE
          have hEA := hEA.kept hkE
          have hED := hED.kept hkE
          have hdk : ¬ dK tx tl p := fun z => hw_88 z.2
          refine lv_iload_n (pc := 115) hx hb dX3_readItem_115 rfl (lv_at hl 0 rfl) ?_
          refine zr_if_eq (pc := 116) (tgt := 123) hx hb dX3_readItem_116 (by decide) (by decide) (fun _ => ?_) (fun z => absurd z (by decide))
          refine lv_aload_n (pc := 123) hx hb dX3_readItem_123 rfl (lv_at hl 3 rfl) ?_
          refine zr_get (pc := 124) S hK hY.2.2.2.1 rfl i_X3 3 (by decide) (List.mem_of_getElem? (i := 1) rfl) rfl dX3_readItem_124 ?_
          refine zr_top (b := tK tx tl (pL tx tl p)) rD_3 ?_
          refine lv_iconst (pc := 127) (v := zI 3) hx hb dX3_readItem_127 rfl ?_
          refine zr_icmp_ne (pc := 128) (tgt := 154) hx hb dX3_readItem_128 (by decide) (by omega) (by decide) (fun c_128 => ?_) (fun c_128 => ?_)
          · refine lv_iconst (pc := 154) (v := zI 0) hx hb dX3_readItem_154 rfl ?_
            exact W.zret (ty := .boolean) (v := zI (0)) hx hb hr (by first | rfl | decide) (fun tz ht hW => ⟨⟨zI (0), zI (0), rfl, rfl, by dsimp only; rw [ht]; exact ⟨_, _, _, _, _, _, hY, Or.inr ⟨Or.inr (Or.inr ⟨hHD, fun k k1 k2 => hok k k1 (by omega), by rw [pE_n hdk]; exact fun z => by first | exact c_128 z.1 | exact c_147 z.2, by rw [pE_n hdk]⟩), rfl⟩, fun x hx => by rw [zu_n (by omega)]; exact hro x hx⟩⟩, hS.F ht⟩) hS.2.2 dX3_readItem_155
          · refine lv_aload_n (pc := 131) hx hb dX3_readItem_131 rfl (lv_at hl 3 rfl) ?_
            refine zr_get (pc := 132) S hK hY.2.2.2.1 rfl i_X3 6 (by decide) (List.mem_of_getElem? (i := 2) rfl) rfl dX3_readItem_132 ?_
            refine zr_get (pc := 135) S hK hY.2.1 rfl i_X5 1 (by decide) (List.mem_of_getElem? (i := 3) rfl) rfl dX3_readItem_135 ?_
            have hts3 := htx (tS tx tl (pL tx tl p)) (by omega) (by omega)
            refine lv_aload_n (pc := 138) hx hb dX3_readItem_138 rfl (lv_at hl 3 rfl) ?_
            skip
            refine zr_get (pc := 139) S hK hY.2.2.2.1 rfl i_X3 1 (by decide) (List.mem_of_getElem? (i := 4) rfl) rfl dX3_readItem_139 ?_
            refine zr_top (b := tS tx tl (pL tx tl p)) rD_1 ?_
            refine zr_ni (pc := 142) (As := [.ref (ad 122), .int (zI (tS tx tl (pL tx tl p)))]) (rest := []) S (ct_X7_at l D cI cT (ad 122) 120 _ (tS tx tl (pL tx tl p)) (tx (tS tx tl (pL tx tl p))) (by decide) (by omega) (by omega) (rfl) (by omega)) (va_cnB 2 hts gX3_readItem_X7_at_n19 rfl rfl rfl (zK_nest hK 15 rfl) (hts _ (List.mem_of_getElem? (i := 24) rfl)) (by decide +kernel) ⟨Nat.le_of_ble_eq_true rfl, Nat.le_of_ble_eq_true rfl⟩) (hts _ (List.mem_of_getElem? (i := 23) rfl)) zs_ar hK (zAr_of (zK_int hK) hY.2.2.1) rfl hl.1 rfl (Nat.le_of_ble_eq_true rfl) dX3_readItem_142 ⟨Nat.le_of_ble_eq_true rfl, Nat.le_of_ble_eq_true rfl⟩ (fun r_142 hr_142 => ?_)
            subst hr_142
            refine lv_bipush (pc := 145) (v := zI 59) hx hb dX3_readItem_145 zc_bipush_59 ?_
            refine zr_icmp_ne (pc := 147) (tgt := 154) hx hb dX3_readItem_147 (by decide) (by omega) (by decide) (fun c_147 => ?_) (fun c_147 => ?_)
            · refine lv_iconst (pc := 154) (v := zI 0) hx hb dX3_readItem_154 rfl ?_
              exact W.zret (ty := .boolean) (v := zI (0)) hx hb hr (by first | rfl | decide) (fun tz ht hW => ⟨⟨zI (0), zI (0), rfl, rfl, by dsimp only; rw [ht]; exact ⟨_, _, _, _, _, _, hY, Or.inr ⟨Or.inr (Or.inr ⟨hHD, fun k k1 k2 => hok k k1 (by omega), by rw [pE_n hdk]; exact fun z => by first | exact c_128 z.1 | exact c_147 z.2, by rw [pE_n hdk]⟩), rfl⟩, fun x hx => by rw [zu_n (by omega)]; exact hro x hx⟩⟩, hS.F ht⟩) hS.2.2 dX3_readItem_155
            · refine lv_iconst (pc := 150) (v := zI 1) hx hb dX3_readItem_150 rfl ?_
              refine lv_goto (pc := 151) (tgt := 155) hx hb dX3_readItem_151 (by decide) ?_
              exact W.zret (ty := .boolean) (v := zI (1)) hx hb hr (by first | rfl | decide) (fun tz ht hW => ⟨⟨zI (1), zI (1), rfl, rfl, by dsimp only; rw [ht]; exact ⟨_, _, _, _, _, _, hY, Or.inl ⟨⟨hHD, fun k k1 k2 => hok k k1 (by omega), by rw [pE_n hdk]; exact ⟨c_128, c_147⟩⟩, rfl, by unfold itN; rw [pE_n hdk], by rw [itG_c hw_3, mkC_0]; omega, by rw [itG_c hw_3, mkC_o hnC.1 (by decide) (by omega)]; omega, ⟨fun _ => ⟨by rw [zu_n (by omega)]; exact hrk, fun k k1 k2 => by rw [zu_n (by omega)]; exact hrv k k1 (by omega), by rw [zu_s, ti_f hdk]⟩, fun z => absurd hw_3 z⟩⟩, fun x hx => by rw [zu_n (by omega)]; exact hro x hx⟩⟩, hS.F ht⟩) hS.2.2 dX3_readItem_155
      · refine lv_aload_n (pc := 61) hx hb dX3_readItem_61 rfl (lv_at hl 2 rfl) ?_
        refine lv_iload_n (pc := 62) hx hb dX3_readItem_62 rfl (lv_at hl 3 rfl) ?_
        refine zr_vwi (pc := 63) (As := [.int (zI ((j : Int) + 1))]) (rest := []) S (ct_X3_readNumber l D cI cT H.size ad tl tx i (tS tx tl (tP tx tl p j)) (tK tx tl (tP tx tl p j)) (c - 1) a rpj hJ7 t0 t1 htx (tE tx tl (tP tx tl p j)) ((j : Int) + 1) (by omega) (by omega) (by omega) (by omega) (by omega) (by omega)) (cwV 1 hts gX3_readItem_X3_readNumber rfl rfl rfl (by decide +kernel) ⟨Nat.le_of_ble_eq_true rfl, Nat.le_of_ble_eq_true rfl⟩) zs0 hK hY (zr_recv hK hY.2.2.2.1 rfl) hS (fun q h => h.elim (fun z => z.elim (fun e => by rw [e]; exact hA123) (fun e => by rw [e]; exact hA124)) (fun z => hAn q (Nat.le_trans hS.1 z))) rfl hl.1 rfl (Nat.le_of_ble_eq_true rfl) dX3_readItem_63 ⟨Nat.le_of_ble_eq_true rfl, Nat.le_of_ble_eq_true rfl⟩ (fun r_63 H locs hG hz hk hS => ?_)
        obtain ⟨rp2, hY, hr_63⟩ := hG
        have hkE := fun (q : Nat) (h1 : _) (h2 : ¬ bs ≤ q) => hk q h1 (fun z => z.elim (fun z => z.elim (fun e => h2 (by rw [e]; exact hb3)) (fun e => h2 (by rw [e]; exact hb4))) (fun y => absurd h1 (Nat.not_lt.mpr y)))
        have hEC := hEC.kept hkE
        have hEA := hEA.kept hkE
        have hED := hED.kept hkE
        rcases hr_63 with ⟨hN_63, rfl, hp_63⟩ | ⟨hN_63, rfl, hp_63⟩
        · refine zr_if_ne (pc := 66) (tgt := 71) hx hb dX3_readItem_66 (by decide) (by decide) (fun _ => ?_) (fun z => absurd z (by decide))
          refine zr_iinc (pc := 71) (d := ((j + 1 : Nat) : Int) + 1) (lv' := [(3, .int (zI (((j + 1 : Nat) : Int) + 1))), (2, .int (zI (5))), (1, .int (zI (1))), (0, .ref (ad 123))]) hx hb dX3_readItem_71 hl (k := 3) rfl (by omega) (by decide) rfl (fun ls hl => ?_)
          refine lv_goto (pc := 74) (tgt := 56) hx hb dX3_readItem_74 (by decide) ?_
          exact ih_56 (j + 1) (rp2) H locs (⟨by omega, fun m m1 m2 => by rcases Nat.lt_or_ge j m with z | z <;> first | exact hok m m1 z | (have e : m = j + 1 := (by omega); subst e; exact hN_63), by rw [hp_63, zu_n (by omega)]; exact hrk, fun m m1 m2 => by rcases Nat.lt_or_ge j m with z | z <;> first | (rw [hp_63, zu_n (by omega)]; exact hrv m m1 z) | (have e : m = j + 1 := (by omega); subst e; rw [hp_63, show i * 7 + ((j + 1 : Nat) : Int) = i * 7 + ((j : Int) + 1) by omega, zu_s]; rfl), fun x hx => by rw [hp_63, zu_n (by omega)]; exact hro x hx, hY, hEC, hEA, hED⟩) hS (by omega) ls (lv_sub hl [1, 2, 3, 0] rfl)
        · refine zr_if_ne (pc := 66) (tgt := 71) hx hb dX3_readItem_66 (by decide) (by decide) (fun z => absurd z (by decide)) (fun _ => ?_)
          refine lv_iconst (pc := 69) (v := zI 0) hx hb dX3_readItem_69 rfl ?_
          exact W.zret (ty := .boolean) (v := zI (0)) hx hb hr (by first | rfl | decide) (fun tz ht hW => ⟨⟨zI (0), zI (0), rfl, rfl, by dsimp only; rw [ht]; exact ⟨_, _, _, _, _, _, hY, Or.inr ⟨Or.inr (Or.inl ⟨hHD, j + 1, by omega, by omega, fun m m1 m2 => hok m m1 (by omega), hN_63, rfl⟩), rfl⟩, fun x hx => (hp_63 x hx).trans (hro x hx)⟩⟩, hS.F ht⟩) hS.2.2 dX3_readItem_70
    · refine zr_if_ne (pc := 25) (tgt := 30) hx hb dX3_readItem_25 (by decide) (by decide) (fun z => absurd z (by decide)) (fun _ => ?_)
      refine lv_iconst (pc := 28) (v := zI 0) hx hb dX3_readItem_28 rfl ?_
      exact W.zret (ty := .boolean) (v := zI (0)) hx hb hr (by first | rfl | decide) (fun tz ht hW => ⟨⟨zI (0), zI (0), rfl, rfl, by dsimp only; rw [ht]; exact ⟨_, _, _, _, _, _, hY, Or.inr ⟨Or.inl ⟨fun z => z.elim (fun y => by first | exact hw_3 y.1 | (have := y.2; omega)) (fun y => by first | exact hw_14 y.1 | exact tW_ca hw_3 y.1 | (have := y.2; omega)), rfl⟩, rfl⟩, fun _ _ => rfl⟩⟩, hS.F ht⟩) hS.2.2 dX3_readItem_29
  · have hw_3 : ¬ tW tx tl p wdC := hb_3
    refine lv_istore_n (pc := 6) (lv' := [(1, .int (zI (0))), (0, .ref (ad 123))]) hx hb dX3_readItem_6 rfl hl (by decide) rfl (fun ls hl => ?_)
    refine lv_iload_n (pc := 7) hx hb dX3_readItem_7 rfl (lv_at hl 0 rfl) ?_
    refine zr_if_ne (pc := 8) (tgt := 20) hx hb dX3_readItem_8 (by decide) (by decide) (fun z => absurd z (by decide)) (fun _ => ?_)
    refine lv_aload_n (pc := 11) hx hb dX3_readItem_11 rfl (lv_at hl 1 rfl) ?_
    refine va_ldcS (pc := 12) hx hb hown hR1 dX3_readItem_12 ?_
    refine zr_vi (pc := 14) (As := [.ref (q1)]) (rest := []) S (ct_X3_isWord l D cI cT ad tl tx i (tS tx tl p) (tE tx tl p) (tK tx tl p) c a rp t0 t1 htx bs q1 v1 wdA (by decide) wdA_ch (by omega) (by omega)) (cwV 1 hts gX3_readItem_X3_isWord rfl rfl rfl (by decide +kernel) ⟨Nat.le_of_ble_eq_true rfl, Nat.le_of_ble_eq_true rfl⟩) zs_SoG hK ⟨hY, hEA⟩ (zr_recv hK hY.2.2.2.1 rfl) rfl hl.1 rfl (Nat.le_of_ble_eq_true rfl) dX3_readItem_14 ⟨Nat.le_of_ble_eq_true rfl, Nat.le_of_ble_eq_true rfl⟩ (fun r_14 hr_14 => ?_)
    rcases hr_14 with ⟨hb_14, rfl⟩ | ⟨hb_14, rfl⟩
    · have hw_14 : tW tx tl p wdA := hb_14
      refine zr_if_eq (pc := 17) (tgt := 28) hx hb dX3_readItem_17 (by decide) (by decide) (fun z => absurd z (by decide)) (fun _ => ?_)
      refine lv_aload_n (pc := 20) hx hb dX3_readItem_20 rfl (lv_at hl 1 rfl) ?_
      refine lv_iload_n (pc := 21) hx hb dX3_readItem_21 rfl (lv_at hl 0 rfl) ?_
      refine zr_vwi (pc := 22) (As := [.int (zI (0))]) (rest := []) S (ct_X3_takePlace l D cI cT H.size ad tl tx i (tS tx tl p) (tE tx tl p) (tK tx tl p) c a rp hJ7 0 (by decide) (by omega) (by omega)) (cwV 1 hts gX3_readItem_X3_takePlace rfl rfl rfl (by decide +kernel) ⟨Nat.le_of_ble_eq_true rfl, Nat.le_of_ble_eq_true rfl⟩) zs0 hK hY (zr_recv hK hY.2.2.2.1 rfl) hS (fun q h => h.elim (fun z => z.elim (fun e => by rw [e]; exact hA123) (fun e => by rw [e]; exact hA124)) (fun z => hAn q (Nat.le_trans hS.1 z))) rfl hl.1 rfl (Nat.le_of_ble_eq_true rfl) dX3_readItem_22 ⟨Nat.le_of_ble_eq_true rfl, Nat.le_of_ble_eq_true rfl⟩ (fun r_22 H locs hG hz hk hS => ?_)
      have hr_22 := (tkp0 hG).1
      have hY := (tkp0 hG).2
      have hkE := fun (q : Nat) (h1 : _) (h2 : ¬ bs ≤ q) => hk q h1 (fun z => z.elim (fun z => z.elim (fun e => h2 (by rw [e]; exact hb3)) (fun e => h2 (by rw [e]; exact hb4))) (fun y => absurd h1 (Nat.not_lt.mpr y)))
      have hEC := hEC.kept hkE
      have hEA := hEA.kept hkE
      have hED := hED.kept hkE
      rcases hr_22 with ⟨hb_22, rfl⟩ | ⟨hb_22, rfl⟩
      · refine zr_if_ne (pc := 25) (tgt := 30) hx hb dX3_readItem_25 (by decide) (by decide) (fun _ => ?_) (fun z => absurd z (by decide))
        have hHD : hdO tx tl g p := Or.inr ⟨hw_14, by omega⟩
        have hnN : nN tx tl p = 3 := nN_a hw_3
        refine lv_aload_n (pc := 30) hx hb dX3_readItem_30 rfl (lv_at hl 1 rfl) ?_
        refine lv_iconst (pc := 31) (v := zI 0) hx hb dX3_readItem_31 rfl ?_
        refine lv_iload_n (pc := 32) hx hb dX3_readItem_32 rfl (lv_at hl 0 rfl) ?_
        refine zr_if_eq (pc := 33) (tgt := 40) hx hb dX3_readItem_33 (by decide) (by decide) (fun _ => ?_) (fun z => absurd z (by decide))
        refine lv_iconst (pc := 40) (v := zI 1) hx hb dX3_readItem_40 rfl ?_
        refine zr_vwv (pc := 41) (As := [.int (zI (0)), .int (zI (1))]) (rest := []) S (ct_X3_keep l D cI cT H.size ad tl tx i (tS tx tl p) (tE tx tl p) (tK tx tl p) c (a - 1) rp hJ7 0 1 (by omega) (by omega) (by omega) (by omega)) (cwV 2 hts gX3_readItem_X3_keep rfl rfl rfl (by decide +kernel) ⟨Nat.le_of_ble_eq_true rfl, Nat.le_of_ble_eq_true rfl⟩) zs0 hK hY (zr_recv hK hY.2.2.2.1 rfl) hS (fun q h => h.elim (fun z => z.elim (fun e => by rw [e]; exact hA123) (fun e => by rw [e]; exact hA124)) (fun z => hAn q (Nat.le_trans hS.1 z))) rfl hl.1 rfl (Nat.le_of_ble_eq_true rfl) dX3_readItem_41 ⟨Nat.le_of_ble_eq_true rfl, Nat.le_of_ble_eq_true rfl⟩ (fun H locs hG hz hk hS => ?_)
        have hY := hG
        have hkE := fun (q : Nat) (h1 : _) (h2 : ¬ bs ≤ q) => hk q h1 (fun z => z.elim (fun z => z.elim (fun e => h2 (by rw [e]; exact hb3)) (fun e => h2 (by rw [e]; exact hb4))) (fun y => absurd h1 (Nat.not_lt.mpr y)))
        have hEC := hEC.kept hkE
        have hEA := hEA.kept hkE
        have hED := hED.kept hkE
        refine lv_iload_n (pc := 44) hx hb dX3_readItem_44 rfl (lv_at hl 0 rfl) ?_
        refine zr_if_eq (pc := 45) (tgt := 52) hx hb dX3_readItem_45 (by decide) (by decide) (fun _ => ?_) (fun z => absurd z (by decide))
        refine lv_iconst (pc := 52) (v := zI 3) hx hb dX3_readItem_52 rfl ?_
        refine lv_istore_n (pc := 53) (lv' := [(2, .int (zI (3))), (1, .int (zI (0))), (0, .ref (ad 123))]) hx hb dX3_readItem_53 rfl hl (by decide) rfl (fun ls hl => ?_)
        refine lv_iconst (pc := 54) (v := zI 1) hx hb dX3_readItem_54 rfl ?_
        refine zr_top (b := ((0 : Nat) : Int) + 1) (by omega) ?_
        refine lv_istore_n (pc := 55) (lv' := [(3, .int (zI (((0 : Nat) : Int) + 1))), (2, .int (zI (3))), (1, .int (zI (0))), (0, .ref (ad 123))]) hx hb dX3_readItem_55 rfl hl (by decide) rfl (fun ls hl => ?_)
        refine zr_hloop2 (fun (j : Nat) (rpj : Int → Int) (H : Heap) => ((j : Int) ≤ 3) ∧ (∀ m : Nat, 1 ≤ m → m ≤ j → okN tx tl p m) ∧ (rpj (i * 7 + 0) = 1) ∧ (∀ m : Nat, 1 ≤ m → m ≤ j → rpj (i * 7 + (m : Int)) = vN tx tl p m) ∧ (∀ x : Int, x < i * 7 → rpj x = rp x) ∧ (cY D cI ad tl tx (rD i (tS tx tl (tP tx tl p j)) (tE tx tl (tP tx tl p j)) (tK tx tl (tP tx tl p j)) c (a - 1)) rpj H) ∧ (zSo bs q0 v0 wdC s H) ∧ (zSo bs q1 v1 wdA s H) ∧ (zSo bs q2 v2 wdD s H)) (fun (j : Nat) (rpj : Int → Int) => 3 - j) (fun (j : Nat) (rpj : Int → Int) => [(2, .int (zI (3))), (1, .int (zI (0))), (0, .ref (ad 123)), (3, .int (zI ((j : Int) + 1)))]) ?_ (0) ((zu rp (i * 7 + 0) 1)) (⟨by decide, fun m m0 m1 => absurd m1 (by omega), zu_s _ _ _, fun m m0 m1 => absurd m1 (by omega), fun x hx => zu_n (by omega), hY, hEC, hEA, hED⟩) hS (lv_sub hl [1, 2, 3, 0] rfl)
        intro j rpj H locs hinv hS ih_56 ls hl
        obtain ⟨hj, hok, hrk, hrv, hro, hY, hEC, hEA, hED⟩ := hinv
        have hpj := tP_bd (tx := tx) p0 p1 (j + 1)
        rw [tP_s] at hpj
        refine lv_iload_n (pc := 56) hx hb dX3_readItem_56 rfl (lv_at hl 3 rfl) ?_
        refine lv_iload_n (pc := 57) hx hb dX3_readItem_57 rfl (lv_at hl 0 rfl) ?_
        refine zr_icmp_gt (pc := 58) (tgt := 77) hx hb dX3_readItem_58 (by decide) (by omega) (by decide) (fun c_58 => ?_) (fun c_58 => ?_)
        · have ej : j = 3 := by omega
          subst ej
          rw [← pL_a hw_3] at hY
          have hpl := pL_bd (tx := tx) p0 p1
          refine lv_aload_n (pc := 77) hx hb dX3_readItem_77 rfl (lv_at hl 2 rfl) ?_
          refine zr_vwv (pc := 78) (As := []) (rest := []) S (ct_X3_nextToken l D cI cT H.size ad tl tx i (tS tx tl (tP tx tl p 3)) (tK tx tl (tP tx tl p 3)) c (a - 1) rpj hJ7 t0 t1 htx (pL tx tl p) (by omega) (by omega)) (cwV 0 hts gX3_readItem_X3_nextToken rfl rfl rfl (by decide +kernel) ⟨Nat.le_of_ble_eq_true rfl, Nat.le_of_ble_eq_true rfl⟩) zs0 hK hY (zr_recv hK hY.2.2.2.1 rfl) hS (fun q h => h.elim (fun z => z.elim (fun e => by rw [e]; exact hA123) (fun e => by rw [e]; exact hA124)) (fun z => hAn q (Nat.le_trans hS.1 z))) rfl hl.1 rfl (Nat.le_of_ble_eq_true rfl) dX3_readItem_78 ⟨Nat.le_of_ble_eq_true rfl, Nat.le_of_ble_eq_true rfl⟩ (fun H locs hG hz hk hS => ?_)
          have hY := hG
          have hkE := fun (q : Nat) (h1 : _) (h2 : ¬ bs ≤ q) => hk q h1 (fun z => z.elim (fun z => z.elim (fun e => h2 (by rw [e]; exact hb3)) (fun e => h2 (by rw [e]; exact hb4))) (fun y => absurd h1 (Nat.not_lt.mpr y)))
          have hEC := hEC.kept hkE
          have hEA := hEA.kept hkE
          have hED := hED.kept hkE
          have htb2 := tE_bd (tx := tx) (tl := tl) (p := pL tx tl p) (by omega) (by omega)
          have htk2 := tK_bd tx tl (pL tx tl p)
          refine lv_iload_n (pc := 81) hx hb dX3_readItem_81 rfl (lv_at hl 1 rfl) ?_
          refine zr_if_eq (pc := 82) (tgt := 98) hx hb dX3_readItem_82 (by decide) (by decide) (fun _ => ?_) (fun z => absurd z (by decide))
          refine lv_iconst (pc := 98) (v := zI 0) hx hb dX3_readItem_98 rfl ?_
          skip
          refine lv_istore_n (pc := 99) (lv' := [(3, .int (zI (0))), (2, .int (zI (3))), (1, .int (zI (0))), (0, .ref (ad 123))]) hx hb dX3_readItem_99 rfl hl (by decide) rfl (fun ls hl => ?_)
          refine lv_aload_n (pc := 100) hx hb dX3_readItem_100 rfl (lv_at hl 3 rfl) ?_
          refine lv_bipush (pc := 101) (v := zI 6) hx hb dX3_readItem_101 zc_bipush_6 ?_
          refine lv_iload_n (pc := 103) hx hb dX3_readItem_103 rfl (lv_at hl 0 rfl) ?_
          refine zr_if_eq (pc := 104) (tgt := 111) hx hb dX3_readItem_104 (by decide) (by decide) (fun _ => ?_) (fun z => absurd z (by decide))
          refine lv_iconst (pc := 111) (v := zI 0) hx hb dX3_readItem_111 rfl ?_
          skip
          refine zr_vwv (pc := 112) (As := [.int (zI (6)), .int (zI (0))]) (rest := []) S (ct_X3_keep l D cI cT H.size ad tl tx i (tS tx tl (pL tx tl p)) (tE tx tl (pL tx tl p)) (tK tx tl (pL tx tl p)) c (a - 1) rpj hJ7 6 0 (by omega) (by omega) (by omega) (by omega)) (cwV 2 hts gX3_readItem_X3_keep rfl rfl rfl (by decide +kernel) ⟨Nat.le_of_ble_eq_true rfl, Nat.le_of_ble_eq_true rfl⟩) zs0 hK hY (zr_recv hK hY.2.2.2.1 rfl) hS (fun q h => h.elim (fun z => z.elim (fun e => by rw [e]; exact hA123) (fun e => by rw [e]; exact hA124)) (fun z => hAn q (Nat.le_trans hS.1 z))) rfl hl.1 rfl (Nat.le_of_ble_eq_true rfl) dX3_readItem_112 ⟨Nat.le_of_ble_eq_true rfl, Nat.le_of_ble_eq_true rfl⟩ (fun H locs hG hz hk hS => ?_)
          have hY := hG
          have hkE := fun (q : Nat) (h1 : _) (h2 : ¬ bs ≤ q) => hk q h1 (fun z => z.elim (fun z => z.elim (fun e => h2 (by rw [e]; exact hb3)) (fun e => h2 (by rw [e]; exact hb4))) (fun y => absurd h1 (Nat.not_lt.mpr y)))
          have hEC := hEC.kept hkE
          have hEA := hEA.kept hkE
          have hED := hED.kept hkE
          have hdk : ¬ dK tx tl p := fun z => hw_3 z.1
          refine lv_iload_n (pc := 115) hx hb dX3_readItem_115 rfl (lv_at hl 0 rfl) ?_
          refine zr_if_eq (pc := 116) (tgt := 123) hx hb dX3_readItem_116 (by decide) (by decide) (fun _ => ?_) (fun z => absurd z (by decide))
          refine lv_aload_n (pc := 123) hx hb dX3_readItem_123 rfl (lv_at hl 3 rfl) ?_
          refine zr_get (pc := 124) S hK hY.2.2.2.1 rfl i_X3 3 (by decide) (List.mem_of_getElem? (i := 1) rfl) rfl dX3_readItem_124 ?_
          refine zr_top (b := tK tx tl (pL tx tl p)) rD_3 ?_
          refine lv_iconst (pc := 127) (v := zI 3) hx hb dX3_readItem_127 rfl ?_
          refine zr_icmp_ne (pc := 128) (tgt := 154) hx hb dX3_readItem_128 (by decide) (by omega) (by decide) (fun c_128 => ?_) (fun c_128 => ?_)
          · refine lv_iconst (pc := 154) (v := zI 0) hx hb dX3_readItem_154 rfl ?_
            exact W.zret (ty := .boolean) (v := zI (0)) hx hb hr (by first | rfl | decide) (fun tz ht hW => ⟨⟨zI (0), zI (0), rfl, rfl, by dsimp only; rw [ht]; exact ⟨_, _, _, _, _, _, hY, Or.inr ⟨Or.inr (Or.inr ⟨hHD, fun k k1 k2 => hok k k1 (by omega), by rw [pE_n hdk]; exact fun z => by first | exact c_128 z.1 | exact c_147 z.2, by rw [pE_n hdk]⟩), rfl⟩, fun x hx => by rw [zu_n (by omega)]; exact hro x hx⟩⟩, hS.F ht⟩) hS.2.2 dX3_readItem_155
          · refine lv_aload_n (pc := 131) hx hb dX3_readItem_131 rfl (lv_at hl 3 rfl) ?_
            refine zr_get (pc := 132) S hK hY.2.2.2.1 rfl i_X3 6 (by decide) (List.mem_of_getElem? (i := 2) rfl) rfl dX3_readItem_132 ?_
            refine zr_get (pc := 135) S hK hY.2.1 rfl i_X5 1 (by decide) (List.mem_of_getElem? (i := 3) rfl) rfl dX3_readItem_135 ?_
            have hts3 := htx (tS tx tl (pL tx tl p)) (by omega) (by omega)
            refine lv_aload_n (pc := 138) hx hb dX3_readItem_138 rfl (lv_at hl 3 rfl) ?_
            skip
            refine zr_get (pc := 139) S hK hY.2.2.2.1 rfl i_X3 1 (by decide) (List.mem_of_getElem? (i := 4) rfl) rfl dX3_readItem_139 ?_
            refine zr_top (b := tS tx tl (pL tx tl p)) rD_1 ?_
            refine zr_ni (pc := 142) (As := [.ref (ad 122), .int (zI (tS tx tl (pL tx tl p)))]) (rest := []) S (ct_X7_at l D cI cT (ad 122) 120 _ (tS tx tl (pL tx tl p)) (tx (tS tx tl (pL tx tl p))) (by decide) (by omega) (by omega) (rfl) (by omega)) (va_cnB 2 hts gX3_readItem_X7_at_n19 rfl rfl rfl (zK_nest hK 15 rfl) (hts _ (List.mem_of_getElem? (i := 24) rfl)) (by decide +kernel) ⟨Nat.le_of_ble_eq_true rfl, Nat.le_of_ble_eq_true rfl⟩) (hts _ (List.mem_of_getElem? (i := 23) rfl)) zs_ar hK (zAr_of (zK_int hK) hY.2.2.1) rfl hl.1 rfl (Nat.le_of_ble_eq_true rfl) dX3_readItem_142 ⟨Nat.le_of_ble_eq_true rfl, Nat.le_of_ble_eq_true rfl⟩ (fun r_142 hr_142 => ?_)
            subst hr_142
            refine lv_bipush (pc := 145) (v := zI 59) hx hb dX3_readItem_145 zc_bipush_59 ?_
            refine zr_icmp_ne (pc := 147) (tgt := 154) hx hb dX3_readItem_147 (by decide) (by omega) (by decide) (fun c_147 => ?_) (fun c_147 => ?_)
            · refine lv_iconst (pc := 154) (v := zI 0) hx hb dX3_readItem_154 rfl ?_
              exact W.zret (ty := .boolean) (v := zI (0)) hx hb hr (by first | rfl | decide) (fun tz ht hW => ⟨⟨zI (0), zI (0), rfl, rfl, by dsimp only; rw [ht]; exact ⟨_, _, _, _, _, _, hY, Or.inr ⟨Or.inr (Or.inr ⟨hHD, fun k k1 k2 => hok k k1 (by omega), by rw [pE_n hdk]; exact fun z => by first | exact c_128 z.1 | exact c_147 z.2, by rw [pE_n hdk]⟩), rfl⟩, fun x hx => by rw [zu_n (by omega)]; exact hro x hx⟩⟩, hS.F ht⟩) hS.2.2 dX3_readItem_155
            · refine lv_iconst (pc := 150) (v := zI 1) hx hb dX3_readItem_150 rfl ?_
              refine lv_goto (pc := 151) (tgt := 155) hx hb dX3_readItem_151 (by decide) ?_
              exact W.zret (ty := .boolean) (v := zI (1)) hx hb hr (by first | rfl | decide) (fun tz ht hW => ⟨⟨zI (1), zI (1), rfl, rfl, by dsimp only; rw [ht]; exact ⟨_, _, _, _, _, _, hY, Or.inl ⟨⟨hHD, fun k k1 k2 => hok k k1 (by omega), by rw [pE_n hdk]; exact ⟨c_128, c_147⟩⟩, rfl, by unfold itN; rw [pE_n hdk], by rw [itG_a hw_3, mkA_o hnA.1 (by decide) (by omega) (by omega)]; omega, by rw [itG_a hw_3, mkA_1]; omega, ⟨fun z => absurd z hw_3, fun _ => ⟨by rw [zu_n (by omega)]; exact hrk, fun k k1 k2 => by rw [zu_n (by omega)]; exact hrv k k1 (by omega)⟩⟩⟩, fun x hx => by rw [zu_n (by omega)]; exact hro x hx⟩⟩, hS.F ht⟩) hS.2.2 dX3_readItem_155
        · refine lv_aload_n (pc := 61) hx hb dX3_readItem_61 rfl (lv_at hl 2 rfl) ?_
          refine lv_iload_n (pc := 62) hx hb dX3_readItem_62 rfl (lv_at hl 3 rfl) ?_
          refine zr_vwi (pc := 63) (As := [.int (zI ((j : Int) + 1))]) (rest := []) S (ct_X3_readNumber l D cI cT H.size ad tl tx i (tS tx tl (tP tx tl p j)) (tK tx tl (tP tx tl p j)) c (a - 1) rpj hJ7 t0 t1 htx (tE tx tl (tP tx tl p j)) ((j : Int) + 1) (by omega) (by omega) (by omega) (by omega) (by omega) (by omega)) (cwV 1 hts gX3_readItem_X3_readNumber rfl rfl rfl (by decide +kernel) ⟨Nat.le_of_ble_eq_true rfl, Nat.le_of_ble_eq_true rfl⟩) zs0 hK hY (zr_recv hK hY.2.2.2.1 rfl) hS (fun q h => h.elim (fun z => z.elim (fun e => by rw [e]; exact hA123) (fun e => by rw [e]; exact hA124)) (fun z => hAn q (Nat.le_trans hS.1 z))) rfl hl.1 rfl (Nat.le_of_ble_eq_true rfl) dX3_readItem_63 ⟨Nat.le_of_ble_eq_true rfl, Nat.le_of_ble_eq_true rfl⟩ (fun r_63 H locs hG hz hk hS => ?_)
          obtain ⟨rp2, hY, hr_63⟩ := hG
          have hkE := fun (q : Nat) (h1 : _) (h2 : ¬ bs ≤ q) => hk q h1 (fun z => z.elim (fun z => z.elim (fun e => h2 (by rw [e]; exact hb3)) (fun e => h2 (by rw [e]; exact hb4))) (fun y => absurd h1 (Nat.not_lt.mpr y)))
          have hEC := hEC.kept hkE
          have hEA := hEA.kept hkE
          have hED := hED.kept hkE
          rcases hr_63 with ⟨hN_63, rfl, hp_63⟩ | ⟨hN_63, rfl, hp_63⟩
          · refine zr_if_ne (pc := 66) (tgt := 71) hx hb dX3_readItem_66 (by decide) (by decide) (fun _ => ?_) (fun z => absurd z (by decide))
            refine zr_iinc (pc := 71) (d := ((j + 1 : Nat) : Int) + 1) (lv' := [(3, .int (zI (((j + 1 : Nat) : Int) + 1))), (2, .int (zI (3))), (1, .int (zI (0))), (0, .ref (ad 123))]) hx hb dX3_readItem_71 hl (k := 3) rfl (by omega) (by decide) rfl (fun ls hl => ?_)
            refine lv_goto (pc := 74) (tgt := 56) hx hb dX3_readItem_74 (by decide) ?_
            exact ih_56 (j + 1) (rp2) H locs (⟨by omega, fun m m1 m2 => by rcases Nat.lt_or_ge j m with z | z <;> first | exact hok m m1 z | (have e : m = j + 1 := (by omega); subst e; exact hN_63), by rw [hp_63, zu_n (by omega)]; exact hrk, fun m m1 m2 => by rcases Nat.lt_or_ge j m with z | z <;> first | (rw [hp_63, zu_n (by omega)]; exact hrv m m1 z) | (have e : m = j + 1 := (by omega); subst e; rw [hp_63, show i * 7 + ((j + 1 : Nat) : Int) = i * 7 + ((j : Int) + 1) by omega, zu_s]; rfl), fun x hx => by rw [hp_63, zu_n (by omega)]; exact hro x hx, hY, hEC, hEA, hED⟩) hS (by omega) ls (lv_sub hl [1, 2, 3, 0] rfl)
          · refine zr_if_ne (pc := 66) (tgt := 71) hx hb dX3_readItem_66 (by decide) (by decide) (fun z => absurd z (by decide)) (fun _ => ?_)
            refine lv_iconst (pc := 69) (v := zI 0) hx hb dX3_readItem_69 rfl ?_
            exact W.zret (ty := .boolean) (v := zI (0)) hx hb hr (by first | rfl | decide) (fun tz ht hW => ⟨⟨zI (0), zI (0), rfl, rfl, by dsimp only; rw [ht]; exact ⟨_, _, _, _, _, _, hY, Or.inr ⟨Or.inr (Or.inl ⟨hHD, j + 1, by omega, by omega, fun m m1 m2 => hok m m1 (by omega), hN_63, rfl⟩), rfl⟩, fun x hx => (hp_63 x hx).trans (hro x hx)⟩⟩, hS.F ht⟩) hS.2.2 dX3_readItem_70
      · refine zr_if_ne (pc := 25) (tgt := 30) hx hb dX3_readItem_25 (by decide) (by decide) (fun z => absurd z (by decide)) (fun _ => ?_)
        refine lv_iconst (pc := 28) (v := zI 0) hx hb dX3_readItem_28 rfl ?_
        exact W.zret (ty := .boolean) (v := zI (0)) hx hb hr (by first | rfl | decide) (fun tz ht hW => ⟨⟨zI (0), zI (0), rfl, rfl, by dsimp only; rw [ht]; exact ⟨_, _, _, _, _, _, hY, Or.inr ⟨Or.inl ⟨fun z => z.elim (fun y => by first | exact hw_3 y.1 | (have := y.2; omega)) (fun y => by first | exact hw_14 y.1 | exact tW_ca hw_3 y.1 | (have := y.2; omega)), rfl⟩, rfl⟩, fun _ _ => rfl⟩⟩, hS.F ht⟩) hS.2.2 dX3_readItem_29
    · have hw_14 : ¬ tW tx tl p wdA := hb_14
      refine zr_if_eq (pc := 17) (tgt := 28) hx hb dX3_readItem_17 (by decide) (by decide) (fun _ => ?_) (fun z => absurd z (by decide))
      refine lv_iconst (pc := 28) (v := zI 0) hx hb dX3_readItem_28 rfl ?_
      exact W.zret (ty := .boolean) (v := zI (0)) hx hb hr (by first | rfl | decide) (fun tz ht hW => ⟨⟨zI (0), zI (0), rfl, rfl, by dsimp only; rw [ht]; exact ⟨_, _, _, _, _, _, hY, Or.inr ⟨Or.inl ⟨fun z => z.elim (fun y => by first | exact hw_3 y.1 | (have := y.2; omega)) (fun y => by first | exact hw_14 y.1 | exact tW_ca hw_3 y.1 | (have := y.2; omega)), rfl⟩, rfl⟩, fun _ _ => rfl⟩⟩, hS.F ht⟩) hS.2.2 dX3_readItem_29
set_option maxHeartbeats 4000000 in
set_option maxRecDepth 100000 in
theorem ct_X3_readAll (l : Launch) (D : va_G) (cI cT : ClassId) (sz : Nat) (ad : Nat → Nat) (tl : Int) (tx : Int → Int) (i sa e t c a : Int) (rp : Int → Int) (hJ7 : zJ ad 127) (t0 : 0 ≤ tl) (t1 : tl ≤ 120) (htx : ∀ i : Int, 0 ≤ i → i < tl → 1 ≤ tx i ∧ tx i ≤ 255) (bs : Nat) (hb3 : bs ≤ ad 123) (hb4 : bs ≤ ad 124) (g : Int → Int) (hI : Inv g) : zMi l yX3_readAll wsX3_readAll ({ frames := 7, cells := 0, slots := 0, locals := 151 }) D cI cT [.ref (ad 123), .int (zI (g 0)), .int (zI (g 1))] sz (fun U H => cY D cI ad tl tx (rD i sa e t c a) rp H ∧ zSt bs U H) (fun rr H => ∃ (i' sa' e' t' c' a' : Int) (rp' : Int → Int), cY D cI ad tl tx (rD i' sa' e' t' c' a') rp' H ∧ ((∃ k : Nat, ldO tx tl g k ∧ rr = zI 1 ∧ i' = (k : Int) ∧ ∀ j : Nat, j < k → rpI tx tl (sqP tx tl j) (j : Int) rp') ∨ (ldB tx tl g sa' ∧ rr = zI 0))) (fun q => (q = ad 123 ∨ q = ad 124) ∨ sz ≤ q) := by
  refine Met.ofW (cc := cX3_readAll) (maxL := 4) (ret := (some .boolean)) (by decide) rfl ?_
  intro p_ e_ s m_ args below meth c_ s₁ B hml hv
  obtain ⟨rfl, hsz, hK, hF⟩ := hv
  have hx := B.exec
  have hb := B.bytes
  have hr := B.returns
  have hts := atoms_spec (ws := wsX3_readAll) B.pre
  have hown : s.vm.findClass RX3 = some m_.cls := findClass_of_methodNamed B.named
  have hlocks := B.notSynchronized
  have S : CallFix p_ m_ c_ cX3_readAll 4 s _ wsX3_readAll RX3 := ⟨hx, hb, hml, hown, hts⟩
  have i_X3 : ∀ w ∈ u_ws RX3 TX3 8, w ∈ wsX3_readAll := fun _ h => List.mem_cons_of_mem _ (List.mem_append_left _ (List.mem_append_right _ h))
  subst hsz
  generalize hAe : (fun q => (q = ad 123 ∨ q = ad 124) ∨ s.heap.size ≤ q) = A
  have hAn : ∀ q : Nat, s.heap.size ≤ q → A q := fun q h => by rw [← hAe]; exact Or.inr h
  obtain ⟨H, hHe⟩ : ∃ H : Heap, H = s.heap := ⟨_, rfl⟩
  rw [← hHe] at hF ⊢
  have hS : va_S A s.heap H [] := by rw [hHe]; exact va_S.rf
  have hE := hF.2
  replace hF := hF.1
  have hY := hF
  have hA123 : A (ad 123) := by rw [← hAe]; exact Or.inl (Or.inl rfl)
  have hA124 : A (ad 124) := by rw [← hAe]; exact Or.inl (Or.inr rfl)
  have hnC := iv_nC hI
  have hnA := iv_nA hI
  have hl := lv_entry ([.ref (ad 123), .int (zI (g 0)), .int (zI (g 1))]) (n := 4) (Nat.le_of_ble_eq_true rfl)
  rw [lg_entry_eq]
  generalize (lg_sl ([.ref (ad 123), .int (zI (g 0)), .int (zI (g 1))]) ++ List.replicate (4 - (lg_sl ([.ref (ad 123), .int (zI (g 0)), .int (zI (g 1))])).length) Slot.unset).toArray = ls at hl ⊢
  have hl : lv_has ls 4 [(0, .ref (ad 123)), (1, .int (zI (g 0))), (2, .int (zI (g 1)))] := hl
  refine lv_aload_n (pc := 0) hx hb dX3_readAll_0 rfl (lv_at hl 0 rfl) ?_
  refine lv_bipush (pc := 1) (v := zI 16) hx hb dX3_readAll_1 zc_bipush_16 ?_
  refine lv_iload_n (pc := 3) hx hb dX3_readAll_3 rfl (lv_at hl 1 rfl) ?_
  refine zr_isub (pc := 4) (d := 16 - (g 0)) hx hb dX3_readAll_4 rfl ?_
  refine zr_put (pc := 5) S hK hY.2.2.2.1 rfl i_X3 tyX3 tyX3_ok nmX3 4 (by decide) (List.mem_of_getElem? (i := 1) rfl) rfl rfl rfl (Nat.le_of_ble_eq_true rfl) hS hA123 dX3_readAll_5 (fun H locs hO hz hk hS => ?_)
  have hY := cD_4 (16 - (g 0)) hJ7 hY (fun q h z => hk q h z) hO
  have hE := hE.kept (fun q h1 h2 => hk q h1 (fun e => h2 (by rw [e]; exact hb3)))
  refine lv_aload_n (pc := 8) hx hb dX3_readAll_8 rfl (lv_at hl 0 rfl) ?_
  refine lv_bipush (pc := 9) (v := zI 8) hx hb dX3_readAll_9 zc_bipush_8 ?_
  refine lv_iload_n (pc := 11) hx hb dX3_readAll_11 rfl (lv_at hl 2 rfl) ?_
  refine zr_isub (pc := 12) (d := 8 - (g 1)) hx hb dX3_readAll_12 rfl ?_
  refine zr_put (pc := 13) S hK hY.2.2.2.1 rfl i_X3 tyX3 tyX3_ok nmX3 5 (by decide) (List.mem_of_getElem? (i := 2) rfl) rfl rfl rfl (Nat.le_of_ble_eq_true rfl) hS hA123 dX3_readAll_13 (fun H locs hO hz hk hS => ?_)
  have hY := cD_5 (8 - (g 1)) hJ7 hY (fun q h z => hk q h z) hO
  have hE := hE.kept (fun q h1 h2 => hk q h1 (fun e => h2 (by rw [e]; exact hb3)))
  refine lv_aload_n (pc := 16) hx hb dX3_readAll_16 rfl (lv_at hl 0 rfl) ?_
  refine lv_iconst (pc := 17) (v := zI 0) hx hb dX3_readAll_17 rfl ?_
  refine zr_put (pc := 18) S hK hY.2.2.2.1 rfl i_X3 tyX3 tyX3_ok nmX3 0 (by decide) (List.mem_of_getElem? (i := 3) rfl) rfl rfl rfl (Nat.le_of_ble_eq_true rfl) hS hA123 dX3_readAll_18 (fun H locs hO hz hk hS => ?_)
  have hY := cD_0 (0) hJ7 hY (fun q h z => hk q h z) hO
  have hE := hE.kept (fun q h1 h2 => hk q h1 (fun e => h2 (by rw [e]; exact hb3)))
  refine lv_aload_n (pc := 21) hx hb dX3_readAll_21 rfl (lv_at hl 0 rfl) ?_
  refine lv_iconst (pc := 22) (v := zI 0) hx hb dX3_readAll_22 rfl ?_
  refine zr_put (pc := 23) S hK hY.2.2.2.1 rfl i_X3 tyX3 tyX3_ok nmX3 2 (by decide) (List.mem_of_getElem? (i := 4) rfl) rfl rfl rfl (Nat.le_of_ble_eq_true rfl) hS hA123 dX3_readAll_23 (fun H locs hO hz hk hS => ?_)
  have hY := cD_2 (0) hJ7 hY (fun q h z => hk q h z) hO
  have hE := hE.kept (fun q h1 h2 => hk q h1 (fun e => h2 (by rw [e]; exact hb3)))
  refine lv_aload_n (pc := 26) hx hb dX3_readAll_26 rfl (lv_at hl 0 rfl) ?_
  refine zr_vwv (pc := 27) (As := []) (rest := []) S (ct_X3_nextToken l D cI cT H.size ad tl tx 0 sa t (16 - (g 0)) (8 - (g 1)) rp hJ7 t0 t1 htx 0 (by omega) (by omega)) (cwV 0 hts gX3_readAll_X3_nextToken rfl rfl rfl (by decide +kernel) ⟨Nat.le_of_ble_eq_true rfl, Nat.le_of_ble_eq_true rfl⟩) zs0 hK hY (zr_recv hK hY.2.2.2.1 rfl) hS (fun q h => h.elim (fun z => z.elim (fun e => by rw [e]; exact hA123) (fun e => by rw [e]; exact hA124)) (fun z => hAn q (Nat.le_trans hS.1 z))) rfl hl.1 rfl (Nat.le_of_ble_eq_true rfl) dX3_readAll_27 ⟨Nat.le_of_ble_eq_true rfl, Nat.le_of_ble_eq_true rfl⟩ (fun H locs hG hz hk hS => ?_)
  have hY := hG
  have hE := hE.kept (fun (q : Nat) (h1 : _) (h2 : ¬ bs ≤ q) => hk q h1 (fun z => z.elim (fun z => z.elim (fun e => h2 (by rw [e]; exact hb3)) (fun e => h2 (by rw [e]; exact hb4))) (fun y => absurd h1 (Nat.not_lt.mpr y))))
  refine lv_iconst (pc := 30) (v := zI 0) hx hb dX3_readAll_30 rfl ?_
  refine lv_istore_n (pc := 31) (lv' := [(3, .int (zI (0))), (0, .ref (ad 123)), (1, .int (zI (g 0))), (2, .int (zI (g 1)))]) hx hb dX3_readAll_31 rfl hl (by decide) rfl (fun ls hl => ?_)
  refine zr_hloop2 (fun (k : Nat) (rpk : Int → Int) (H : Heap) => (sqO tx tl g k) ∧ (∀ j : Nat, j < k → rpI tx tl (sqP tx tl j) (j : Int) rpk) ∧ (cY D cI ad tl tx (rD ((k : Int)) (tS tx tl (sqP tx tl k)) (tE tx tl (sqP tx tl k)) (tK tx tl (sqP tx tl k)) (16 - sqG tx tl g k 0) (8 - sqG tx tl g k 1)) rpk H) ∧ (zSt bs s H)) (fun (k : Nat) (rpk : Int → Int) => 30 - k) (fun (k : Nat) (rpk : Int → Int) => [(0, .ref (ad 123)), (1, .int (zI (g 0))), (2, .int (zI (g 1))), (3, .int (zI ((k : Int))))]) ?_ (0) (rp) (⟨fun j hj => absurd hj (Nat.not_lt_zero _), fun j hj => absurd hj (Nat.not_lt_zero _), hY, hE⟩) hS (lv_sub hl [1, 2, 3, 0] rfl)
  intro k rpk H locs hinv hS ih_32 ls hl
  obtain ⟨hsq, hrp, hY, hE⟩ := hinv
  have hkle := sq_le hI hsq
  obtain ⟨hIk, hcn, hcx⟩ := sq_inv hI hsq
  have hpk := sqP_bd (tx := tx) t0 k
  have htk := tK_bd tx tl (sqP tx tl k)
  have hnCk := iv_nC hIk
  have hnAk := iv_nA hIk
  refine lv_iload_n (pc := 32) hx hb dX3_readAll_32 rfl (lv_at hl 3 rfl) ?_
  refine lv_bipush (pc := 33) (v := zI 120) hx hb dX3_readAll_33 zc_bipush_120 ?_
  refine zr_icmp_ge (pc := 35) (tgt := 74) hx hb dX3_readAll_35 (by decide) (by omega) (by decide) (fun c_35 => ?_) (fun c_35 => ?_)
  · exact absurd c_35 (by omega)
  · refine lv_aload_n (pc := 38) hx hb dX3_readAll_38 rfl (lv_at hl 0 rfl) ?_
    refine zr_get (pc := 39) S hK hY.2.2.2.1 rfl i_X3 3 (by decide) (List.mem_of_getElem? (i := 5) rfl) rfl dX3_readAll_39 ?_
    refine zr_top (b := tK tx tl (sqP tx tl k)) rD_3 ?_
    refine zr_if_eq (pc := 42) (tgt := 74) hx hb dX3_readAll_42 (by decide) (by omega) (fun c_42 => ?_) (fun c_42 => ?_)
    · refine lv_aload_n (pc := 74) hx hb dX3_readAll_74 rfl (lv_at hl 0 rfl) ?_
      refine zr_get (pc := 75) S hK hY.2.2.2.1 rfl i_X3 3 (by decide) (List.mem_of_getElem? (i := 5) rfl) rfl dX3_readAll_75 ?_
      refine zr_top (b := tK tx tl (sqP tx tl k)) rD_3 ?_
      refine zr_if_ne (pc := 78) (tgt := 85) hx hb dX3_readAll_78 (by decide) (by omega) (fun c_78 => ?_) (fun c_78 => ?_)
      · exact absurd c_42 c_78
      · refine lv_iconst (pc := 81) (v := zI 1) hx hb dX3_readAll_81 rfl ?_
        refine lv_goto (pc := 82) (tgt := 86) hx hb dX3_readAll_82 (by decide) ?_
        exact W.zret (ty := .boolean) (v := zI (1)) hx hb hr (by first | rfl | decide) (fun tz ht hW => ⟨⟨zI (1), zI (1), rfl, rfl, by dsimp only; rw [ht]; exact ⟨_, _, _, _, _, _, _, hY, Or.inl ⟨k, ⟨hsq, c_42⟩, rfl, rfl, hrp⟩⟩⟩, hS.F ht⟩) hS.2.2 dX3_readAll_86
    · refine lv_aload_n (pc := 45) hx hb dX3_readAll_45 rfl (lv_at hl 0 rfl) ?_
      refine zr_vwi2 (pc := 46) (As := []) (rest := []) S (ct_X3_readItem l D cI cT H.size ad tl tx ((k : Int)) (16 - sqG tx tl g k 0) (8 - sqG tx tl g k 1) rpk hJ7 t0 t1 htx bs hb3 hb4 (sqG tx tl g k) hIk (sqP tx tl k) hpk.1 hpk.2 (by omega) rfl rfl (by omega)) (cwV 0 hts gX3_readAll_X3_readItem rfl rfl rfl (by decide +kernel) ⟨Nat.le_of_ble_eq_true rfl, Nat.le_of_ble_eq_true rfl⟩) zs2_St hK ⟨hY, hE⟩ (zr_recv hK hY.2.2.2.1 rfl) hS (fun q h => h.elim (fun z => z.elim (fun e => by rw [e]; exact hA123) (fun e => by rw [e]; exact hA124)) (fun z => hAn q (Nat.le_trans hS.1 z))) rfl hl.1 rfl (Nat.le_of_ble_eq_true rfl) dX3_readAll_46 ⟨Nat.le_of_ble_eq_true rfl, Nat.le_of_ble_eq_true rfl⟩ (fun r_46 H locs hG hz hk hS => ?_)
      obtain ⟨sa2, e2, t2, c2, a2, rp2, hY, hr_46, hro⟩ := hG
      have hE := hE.kept (fun (q : Nat) (h1 : _) (h2 : ¬ bs ≤ q) => hk q h1 (fun z => z.elim (fun z => z.elim (fun e => h2 (by rw [e]; exact hb3)) (fun e => h2 (by rw [e]; exact hb4))) (fun y => absurd h1 (Nat.not_lt.mpr y))))
      rcases hr_46 with ⟨hO_46, rfl, he_46, hc_46, ha_46, hi_46⟩ | ⟨hB_46, rfl⟩
      · refine zr_if_ne (pc := 49) (tgt := 54) hx hb dX3_readAll_49 (by decide) (by decide) (fun _ => ?_) (fun z => absurd z (by decide))
        subst he_46
        subst hc_46
        subst ha_46
        have hnb := itN_bd (tx := tx) hpk.1 hpk.2
        refine lv_aload_n (pc := 54) hx hb dX3_readAll_54 rfl (lv_at hl 0 rfl) ?_
        refine lv_dup (pc := 55) hx hb dX3_readAll_55 rfl ?_
        refine zr_get (pc := 56) S hK hY.2.2.2.1 rfl i_X3 0 (by decide) (List.mem_of_getElem? (i := 3) rfl) rfl dX3_readAll_56 ?_
        refine zr_top (b := (k : Int)) rD_0 ?_
        refine lv_iconst (pc := 59) (v := zI 1) hx hb dX3_readAll_59 rfl ?_
        refine zr_iadd (pc := 60) (d := ((k + 1 : Nat) : Int)) hx hb dX3_readAll_60 (by omega) ?_
        refine zr_put (pc := 61) S hK hY.2.2.2.1 rfl i_X3 tyX3 tyX3_ok nmX3 0 (by decide) (List.mem_of_getElem? (i := 3) rfl) rfl rfl rfl (Nat.le_of_ble_eq_true rfl) hS hA123 dX3_readAll_61 (fun H locs hO hz hk hS => ?_)
        have hY := cD_0 (((k + 1 : Nat) : Int)) hJ7 hY (fun q h z => hk q h z) hO
        have hE := hE.kept (fun q h1 h2 => hk q h1 (fun e => h2 (by rw [e]; exact hb3)))
        refine lv_aload_n (pc := 64) hx hb dX3_readAll_64 rfl (lv_at hl 0 rfl) ?_
        refine zr_vwv (pc := 65) (As := []) (rest := []) S (ct_X3_nextToken l D cI cT H.size ad tl tx (((k + 1 : Nat) : Int)) sa2 t2 (16 - itG tx tl (sqG tx tl g k) (sqP tx tl k) 0) (8 - itG tx tl (sqG tx tl g k) (sqP tx tl k) 1) rp2 hJ7 t0 t1 htx (itN tx tl (sqP tx tl k)) (by omega) (by omega)) (cwV 0 hts gX3_readAll_X3_nextToken rfl rfl rfl (by decide +kernel) ⟨Nat.le_of_ble_eq_true rfl, Nat.le_of_ble_eq_true rfl⟩) zs0 hK hY (zr_recv hK hY.2.2.2.1 rfl) hS (fun q h => h.elim (fun z => z.elim (fun e => by rw [e]; exact hA123) (fun e => by rw [e]; exact hA124)) (fun z => hAn q (Nat.le_trans hS.1 z))) rfl hl.1 rfl (Nat.le_of_ble_eq_true rfl) dX3_readAll_65 ⟨Nat.le_of_ble_eq_true rfl, Nat.le_of_ble_eq_true rfl⟩ (fun H locs hG hz hk hS => ?_)
        have hY := hG
        have hE := hE.kept (fun (q : Nat) (h1 : _) (h2 : ¬ bs ≤ q) => hk q h1 (fun z => z.elim (fun z => z.elim (fun e => h2 (by rw [e]; exact hb3)) (fun e => h2 (by rw [e]; exact hb4))) (fun y => absurd h1 (Nat.not_lt.mpr y))))
        refine zr_iinc (pc := 68) (d := ((k + 1 : Nat) : Int)) (lv' := [(3, .int (zI (((k + 1 : Nat) : Int)))), (0, .ref (ad 123)), (1, .int (zI (g 0))), (2, .int (zI (g 1)))]) hx hb dX3_readAll_68 hl (k := 3) rfl (by omega) (by decide) rfl (fun ls hl => ?_)
        refine lv_goto (pc := 71) (tgt := 32) hx hb dX3_readAll_71 (by decide) ?_
        exact ih_32 (k + 1) (rp2) H locs (⟨sqO_s hsq c_42 hO_46, fun j hj => by rcases Nat.lt_or_ge j k with z | z <;> first | exact rpI_congr (hrp j z) (fun x x0 x1 => hro x (by omega)) | (have e : j = k := (by omega); subst e; exact hi_46), hY, hE⟩) hS (by omega) ls (lv_sub hl [1, 2, 3, 0] rfl)
      · refine zr_if_ne (pc := 49) (tgt := 54) hx hb dX3_readAll_49 (by decide) (by decide) (fun z => absurd z (by decide)) (fun _ => ?_)
        refine lv_iconst (pc := 52) (v := zI 0) hx hb dX3_readAll_52 rfl ?_
        exact W.zret (ty := .boolean) (v := zI (0)) hx hb hr (by first | rfl | decide) (fun tz ht hW => ⟨⟨zI (0), zI (0), rfl, rfl, by dsimp only; rw [ht]; exact ⟨_, _, _, _, _, _, _, hY, Or.inr ⟨⟨k, hsq, c_42, hB_46⟩, rfl⟩⟩⟩, hS.F ht⟩) hS.2.2 dX3_readAll_53
