set_option maxHeartbeats 4000000 in
set_option maxRecDepth 100000 in
theorem ct_X7_addItem (l : Launch) (D : va_G) (cI cT : ClassId) (sz : Nat) (ad : Nat → Nat) (σ : Nat → Int → Int) (g : Int → Int) (hR : Rel σ g) (hI : Inv g) (tl : Int) (tx rd rp : Int → Int) (hJ7 : zJ ad 127) (t0 : 0 ≤ tl) (t1 : tl ≤ 120) (htx : ∀ i : Int, 0 ≤ i → i < tl → 1 ≤ tx i ∧ tx i ≤ 255) (x : Int) (x0 : 0 ≤ x) (x1 : x ≤ 23) (p : Int) (hO2 : itO tx tl g p) (hrp : rpI tx tl p x rp) : zMv l yX7_addItem wsX7_addItem ({ frames := 2, cells := 0, slots := 0, locals := 49 }) D cI cT [.ref (ad 120), .int (zI (x))] sz (fun _ H => zW D ad 20 (sC cI ad σ) H ∧ cY D cI ad tl tx rd rp H) (fun H => ∃ σ' : Nat → Int → Int, Rel σ' (itG tx tl g p) ∧ zW D ad 20 (sC cI ad σ') H) (zR ad 20 sz) := by
  refine Met.ofW (cc := cX7_addItem) (maxL := 5) (ret := none) (by decide) rfl ?_
  intro p_ e_ s m_ args below meth c_ s₁ B hml hv
  obtain ⟨rfl, hsz, hK, hF⟩ := hv
  have hx := B.exec
  have hb := B.bytes
  have hr := B.returns
  have hts := atoms_spec (ws := wsX7_addItem) B.pre
  have hown : s.vm.findClass RX7 = some m_.cls := findClass_of_methodNamed B.named
  have hlocks := B.notSynchronized
  have S : CallFix p_ m_ c_ cX7_addItem 5 s _ wsX7_addItem RX7 := ⟨hx, hb, hml, hown, hts⟩
  have i_X7 : ∀ w ∈ u_ws RX7 TX7 4, w ∈ wsX7_addItem := fun _ h => List.mem_cons_of_mem _ (List.mem_append_left _ (List.mem_append_left _ (List.mem_append_left _ (List.mem_append_left _ (List.mem_append_right _ h)))))
  have i_X4 : ∀ w ∈ u_ws RX4 TX4 9, w ∈ wsX7_addItem := fun _ h => List.mem_cons_of_mem _ (List.mem_append_left _ (List.mem_append_left _ (List.mem_append_left _ (List.mem_append_right _ h))))
  subst hsz
  generalize hAe : (zR ad 20 s.heap.size) = A
  have hAn : ∀ q : Nat, s.heap.size ≤ q → A q := fun q h => by rw [← hAe]; exact Or.inr h
  obtain ⟨H, hHe⟩ : ∃ H : Heap, H = s.heap := ⟨_, rfl⟩
  rw [← hHe] at hF ⊢
  have hS : va_S A s.heap H [] := by rw [hHe]; exact va_S.rf
  obtain ⟨hP, hY⟩ := hF
  have hAin : ∀ k : Nat, k < 20 → A (ad k) := fun k hk => by rw [← hAe]; exact Or.inl ⟨k, hk, rfl⟩
  have hJ : zJ ad 20 := zJ_le hJ7 (by decide)
  have hnC := iv_nC hI
  have hnA := iv_nA hI
  have hkk := rpI_k hrp
  have hkb : 0 ≤ rp (x * 7 + 0) ∧ rp (x * 7 + 0) ≤ 1 := by rcases hkk with z | z <;> omega
  have hl := lv_entry ([.ref (ad 120), .int (zI (x))]) (n := 5) (Nat.le_of_ble_eq_true rfl)
  rw [lg_entry_eq]
  generalize (lg_sl ([.ref (ad 120), .int (zI (x))]) ++ List.replicate (5 - (lg_sl ([.ref (ad 120), .int (zI (x))])).length) Slot.unset).toArray = ls at hl ⊢
  have hl : lv_has ls 5 [(0, .ref (ad 120)), (1, .int (zI (x)))] := hl
  refine lv_aload_n (pc := 0) hx hb dX7_addItem_0 rfl (lv_at hl 0 rfl) ?_
  refine zr_get (pc := 1) S hK hY.1 rfl i_X7 3 (by decide) (List.mem_of_getElem? (i := 1) rfl) rfl dX7_addItem_1 ?_
  refine lv_iload_n (pc := 4) hx hb dX7_addItem_4 rfl (lv_at hl 1 rfl) ?_
  refine lv_iconst (pc := 5) (v := zI 1) hx hb dX7_addItem_5 rfl ?_
  refine zr_vi (pc := 6) (As := [.int (zI (x)), .int (zI (1))]) (rest := []) S (ct_X3_part l D cI cT ad tl tx rd rp t0 t1 htx x 1 (by omega) (by omega) (by omega) (by omega)) (cwV 2 hts gX7_addItem_X3_part rfl rfl rfl (by decide +kernel) ⟨Nat.le_of_ble_eq_true rfl, Nat.le_of_ble_eq_true rfl⟩) zs0 hK hY (zr_recv hK hY.2.2.2.1 rfl) rfl hl.1 rfl (Nat.le_of_ble_eq_true rfl) dX7_addItem_6 ⟨Nat.le_of_ble_eq_true rfl, Nat.le_of_ble_eq_true rfl⟩ (fun r_6 hr_6 => ?_)
  subst hr_6
  refine zr_top (b := vN tx tl p 1) (rpI_v hrp (k := 1) (by decide) (by decide)) ?_
  refine lv_istore_n (pc := 9) (lv' := [(2, .int (zI (vN tx tl p 1))), (0, .ref (ad 120)), (1, .int (zI (x)))]) hx hb dX7_addItem_9 rfl hl (by decide) rfl (fun ls hl => ?_)
  refine lv_aload_n (pc := 10) hx hb dX7_addItem_10 rfl (lv_at hl 1 rfl) ?_
  refine zr_get (pc := 11) S hK hY.1 rfl i_X7 3 (by decide) (List.mem_of_getElem? (i := 1) rfl) rfl dX7_addItem_11 ?_
  refine lv_iload_n (pc := 14) hx hb dX7_addItem_14 rfl (lv_at hl 2 rfl) ?_
  refine lv_iconst (pc := 15) (v := zI 2) hx hb dX7_addItem_15 rfl ?_
  refine zr_vi (pc := 16) (As := [.int (zI (x)), .int (zI (2))]) (rest := []) S (ct_X3_part l D cI cT ad tl tx rd rp t0 t1 htx x 2 (by omega) (by omega) (by omega) (by omega)) (cwV 2 hts gX7_addItem_X3_part rfl rfl rfl (by decide +kernel) ⟨Nat.le_of_ble_eq_true rfl, Nat.le_of_ble_eq_true rfl⟩) zs0 hK hY (zr_recv hK hY.2.2.2.1 rfl) rfl hl.1 rfl (Nat.le_of_ble_eq_true rfl) dX7_addItem_16 ⟨Nat.le_of_ble_eq_true rfl, Nat.le_of_ble_eq_true rfl⟩ (fun r_16 hr_16 => ?_)
  subst hr_16
  refine zr_top (b := vN tx tl p 2) (rpI_v hrp (k := 2) (by decide) (by decide)) ?_
  refine lv_istore_n (pc := 19) (lv' := [(3, .int (zI (vN tx tl p 2))), (2, .int (zI (vN tx tl p 1))), (0, .ref (ad 120)), (1, .int (zI (x)))]) hx hb dX7_addItem_19 rfl hl (by decide) rfl (fun ls hl => ?_)
  refine lv_aload_n (pc := 20) hx hb dX7_addItem_20 rfl (lv_at hl 2 rfl) ?_
  refine zr_get (pc := 21) S hK hY.1 rfl i_X7 3 (by decide) (List.mem_of_getElem? (i := 1) rfl) rfl dX7_addItem_21 ?_
  refine lv_iload_n (pc := 24) hx hb dX7_addItem_24 rfl (lv_at hl 3 rfl) ?_
  refine lv_iconst (pc := 25) (v := zI 3) hx hb dX7_addItem_25 rfl ?_
  refine zr_vi (pc := 26) (As := [.int (zI (x)), .int (zI (3))]) (rest := []) S (ct_X3_part l D cI cT ad tl tx rd rp t0 t1 htx x 3 (by omega) (by omega) (by omega) (by omega)) (cwV 2 hts gX7_addItem_X3_part rfl rfl rfl (by decide +kernel) ⟨Nat.le_of_ble_eq_true rfl, Nat.le_of_ble_eq_true rfl⟩) zs0 hK hY (zr_recv hK hY.2.2.2.1 rfl) rfl hl.1 rfl (Nat.le_of_ble_eq_true rfl) dX7_addItem_26 ⟨Nat.le_of_ble_eq_true rfl, Nat.le_of_ble_eq_true rfl⟩ (fun r_26 hr_26 => ?_)
  subst hr_26
  refine zr_top (b := vN tx tl p 3) (rpI_v hrp (k := 3) (by decide) (by decide)) ?_
  refine lv_istore (pc := 29) (lv' := [(4, .int (zI (vN tx tl p 3))), (3, .int (zI (vN tx tl p 2))), (2, .int (zI (vN tx tl p 1))), (0, .ref (ad 120)), (1, .int (zI (x)))]) hx hb dX7_addItem_29 hl (by decide) rfl (fun ls hl => ?_)
  refine lv_aload_n (pc := 31) hx hb dX7_addItem_31 rfl (lv_at hl 3 rfl) ?_
  refine zr_get (pc := 32) S hK hY.1 rfl i_X7 3 (by decide) (List.mem_of_getElem? (i := 1) rfl) rfl dX7_addItem_32 ?_
  refine lv_iload_n (pc := 35) hx hb dX7_addItem_35 rfl (lv_at hl 4 rfl) ?_
  refine lv_iconst (pc := 36) (v := zI 0) hx hb dX7_addItem_36 rfl ?_
  refine zr_vi (pc := 37) (As := [.int (zI (x)), .int (zI (0))]) (rest := []) S (ct_X3_part l D cI cT ad tl tx rd rp t0 t1 htx x 0 (by omega) (by omega) (by omega) (by omega)) (cwV 2 hts gX7_addItem_X3_part rfl rfl rfl (by decide +kernel) ⟨Nat.le_of_ble_eq_true rfl, Nat.le_of_ble_eq_true rfl⟩) zs0 hK hY (zr_recv hK hY.2.2.2.1 rfl) rfl hl.1 rfl (Nat.le_of_ble_eq_true rfl) dX7_addItem_37 ⟨Nat.le_of_ble_eq_true rfl, Nat.le_of_ble_eq_true rfl⟩ (fun r_37 hr_37 => ?_)
  subst hr_37
  refine lv_iconst (pc := 40) (v := zI 1) hx hb dX7_addItem_40 rfl ?_
  refine zr_icmp_ne (pc := 41) (tgt := 62) hx hb dX7_addItem_41 (by decide) (by omega) (by decide) (fun c_41 => ?_) (fun c_41 => ?_)
  · have hkC : tW tx tl p wdC := by rcases hkk with z | z <;> first | exact z.1 | omega
    have hgC := itO_c hO2 hkC
    refine lv_aload_n (pc := 62) hx hb dX7_addItem_62 rfl (lv_at hl 3 rfl) ?_
    refine zr_get (pc := 63) S hK hY.1 rfl i_X7 0 (by decide) (List.mem_of_getElem? (i := 2) rfl) rfl dX7_addItem_63 ?_
    refine zr_get (pc := 66) S hK (hP 0 (by decide)) rfl i_X4 0 (by decide) (List.mem_of_getElem? (i := 4) rfl) rfl dX7_addItem_66 ?_
    refine lv_iload_n (pc := 69) hx hb dX7_addItem_69 rfl (lv_at hl 2 rfl) ?_
    refine lv_iload_n (pc := 70) hx hb dX7_addItem_70 rfl (lv_at hl 1 rfl) ?_
    refine lv_iload (pc := 71) hx hb dX7_addItem_71 (lv_at hl 0 rfl) ?_
    refine lv_aload_n (pc := 73) hx hb dX7_addItem_73 rfl (lv_at hl 3 rfl) ?_
    refine zr_get (pc := 74) S hK hY.1 rfl i_X7 3 (by decide) (List.mem_of_getElem? (i := 1) rfl) rfl dX7_addItem_74 ?_
    refine lv_iload_n (pc := 77) hx hb dX7_addItem_77 rfl (lv_at hl 4 rfl) ?_
    refine lv_iconst (pc := 78) (v := zI 4) hx hb dX7_addItem_78 rfl ?_
    refine zr_vi (pc := 79) (As := [.int (zI (x)), .int (zI (4))]) (rest := [.int (zI (vN tx tl p 3)), .int (zI (vN tx tl p 2)), .int (zI (vN tx tl p 1)), .ref (ad 1)]) S (ct_X3_part l D cI cT ad tl tx rd rp t0 t1 htx x 4 (by omega) (by omega) (by omega) (by omega)) (cwV 2 hts gX7_addItem_X3_part rfl rfl rfl (by decide +kernel) ⟨Nat.le_of_ble_eq_true rfl, Nat.le_of_ble_eq_true rfl⟩) zs0 hK hY (zr_recv hK hY.2.2.2.1 rfl) rfl hl.1 rfl (Nat.le_of_ble_eq_true rfl) dX7_addItem_79 ⟨Nat.le_of_ble_eq_true rfl, Nat.le_of_ble_eq_true rfl⟩ (fun r_79 hr_79 => ?_)
    subst hr_79
    refine zr_top (b := vN tx tl p 4) ((hrp.1 hkC).2.1 4 (by decide) (by decide)) ?_
    refine lv_aload_n (pc := 82) hx hb dX7_addItem_82 rfl (lv_at hl 3 rfl) ?_
    refine zr_get (pc := 83) S hK hY.1 rfl i_X7 3 (by decide) (List.mem_of_getElem? (i := 1) rfl) rfl dX7_addItem_83 ?_
    refine lv_iload_n (pc := 86) hx hb dX7_addItem_86 rfl (lv_at hl 4 rfl) ?_
    refine lv_iconst (pc := 87) (v := zI 5) hx hb dX7_addItem_87 rfl ?_
    refine zr_vi (pc := 88) (As := [.int (zI (x)), .int (zI (5))]) (rest := [.int (zI (vN tx tl p 4)), .int (zI (vN tx tl p 3)), .int (zI (vN tx tl p 2)), .int (zI (vN tx tl p 1)), .ref (ad 1)]) S (ct_X3_part l D cI cT ad tl tx rd rp t0 t1 htx x 5 (by omega) (by omega) (by omega) (by omega)) (cwV 2 hts gX7_addItem_X3_part rfl rfl rfl (by decide +kernel) ⟨Nat.le_of_ble_eq_true rfl, Nat.le_of_ble_eq_true rfl⟩) zs0 hK hY (zr_recv hK hY.2.2.2.1 rfl) rfl hl.1 rfl (Nat.le_of_ble_eq_true rfl) dX7_addItem_88 ⟨Nat.le_of_ble_eq_true rfl, Nat.le_of_ble_eq_true rfl⟩ (fun r_88 hr_88 => ?_)
    subst hr_88
    refine zr_top (b := vN tx tl p 5) ((hrp.1 hkC).2.1 5 (by decide) (by decide)) ?_
    refine lv_aload_n (pc := 91) hx hb dX7_addItem_91 rfl (lv_at hl 3 rfl) ?_
    refine zr_get (pc := 92) S hK hY.1 rfl i_X7 3 (by decide) (List.mem_of_getElem? (i := 1) rfl) rfl dX7_addItem_92 ?_
    refine lv_iload_n (pc := 95) hx hb dX7_addItem_95 rfl (lv_at hl 4 rfl) ?_
    refine lv_bipush (pc := 96) (v := zI 6) hx hb dX7_addItem_96 zc_bipush_6 ?_
    refine zr_vi (pc := 98) (As := [.int (zI (x)), .int (zI (6))]) (rest := [.int (zI (vN tx tl p 5)), .int (zI (vN tx tl p 4)), .int (zI (vN tx tl p 3)), .int (zI (vN tx tl p 2)), .int (zI (vN tx tl p 1)), .ref (ad 1)]) S (ct_X3_part l D cI cT ad tl tx rd rp t0 t1 htx x 6 (by omega) (by omega) (by omega) (by omega)) (cwV 2 hts gX7_addItem_X3_part rfl rfl rfl (by decide +kernel) ⟨Nat.le_of_ble_eq_true rfl, Nat.le_of_ble_eq_true rfl⟩) zs0 hK hY (zr_recv hK hY.2.2.2.1 rfl) rfl hl.1 rfl (Nat.le_of_ble_eq_true rfl) dX7_addItem_98 ⟨Nat.le_of_ble_eq_true rfl, Nat.le_of_ble_eq_true rfl⟩ (fun r_98 hr_98 => ?_)
    subst hr_98
    refine zr_top (b := ti (dK tx tl p)) ((hrp.1 hkC).2.2) ?_
    refine zr_vwi (pc := 101) (As := [.int (zI (vN tx tl p 1)), .int (zI (vN tx tl p 2)), .int (zI (vN tx tl p 3)), .int (zI (vN tx tl p 4)), .int (zI (vN tx tl p 5)), .int (zI (ti (dK tx tl p)))]) (rest := []) S (ct_X6_add l D cI cT H.size ad σ g hR hI hJ (vN tx tl p 1) (vN tx tl p 2) (vN tx tl p 3) (vN tx tl p 4) (vN tx tl p 5) (ti (dK tx tl p)) (by omega)) (cwV 6 hts gX7_addItem_X6_add rfl rfl rfl (by decide +kernel) ⟨Nat.le_of_ble_eq_true rfl, Nat.le_of_ble_eq_true rfl⟩) zs0 hK hP (zr_recv hK (hP 1 (by decide)) rfl) hS (fun q h => h.elim (fun ⟨k, k0, e⟩ => by rw [e]; exact hAin k k0) (fun z => hAn q (Nat.le_trans hS.1 z))) rfl hl.1 rfl (Nat.le_of_ble_eq_true rfl) dX7_addItem_101 ⟨Nat.le_of_ble_eq_true rfl, Nat.le_of_ble_eq_true rfl⟩ (fun r_101 H locs hG hz hk hS => ?_)
    obtain ⟨rfl, σ1, hR1, hP⟩ := hG
    refine lv_pop (pc := 104) hx hb dX7_addItem_104 rfl ?_
    exact W.vret hx hb hr (fun tz ht hW => ⟨⟨(), rfl, trivial, by dsimp only; rw [ht]; exact ⟨_, by have h := hR1; first | (rw [itG_a hkA]; exact h) | (rw [itG_c hkC]; exact h), hP⟩⟩, hS.F ht⟩) hS.2.2 dX7_addItem_105
  · have hkA : ¬ tW tx tl p wdC := by rcases hkk with z | z <;> first | omega | exact z.1
    have hgA := itO_a hO2 hkA
    refine lv_aload_n (pc := 44) hx hb dX7_addItem_44 rfl (lv_at hl 3 rfl) ?_
    refine zr_get (pc := 45) S hK hY.1 rfl i_X7 0 (by decide) (List.mem_of_getElem? (i := 2) rfl) rfl dX7_addItem_45 ?_
    refine zr_get (pc := 48) S hK (hP 0 (by decide)) rfl i_X4 1 (by decide) (List.mem_of_getElem? (i := 3) rfl) rfl dX7_addItem_48 ?_
    refine lv_iload_n (pc := 51) hx hb dX7_addItem_51 rfl (lv_at hl 2 rfl) ?_
    refine lv_iload_n (pc := 52) hx hb dX7_addItem_52 rfl (lv_at hl 1 rfl) ?_
    refine lv_iload (pc := 53) hx hb dX7_addItem_53 (lv_at hl 0 rfl) ?_
    refine zr_vwi (pc := 55) (As := [.int (zI (vN tx tl p 1)), .int (zI (vN tx tl p 2)), .int (zI (vN tx tl p 3))]) (rest := []) S (ct_X0_add l D cI cT H.size ad σ g hR hI hJ (vN tx tl p 1) (vN tx tl p 2) (vN tx tl p 3) (by omega)) (cwV 3 hts gX7_addItem_X0_add rfl rfl rfl (by decide +kernel) ⟨Nat.le_of_ble_eq_true rfl, Nat.le_of_ble_eq_true rfl⟩) zs0 hK hP (zr_recv hK (hP 2 (by decide)) rfl) hS (fun q h => h.elim (fun ⟨k, k0, e⟩ => by rw [e]; exact hAin k k0) (fun z => hAn q (Nat.le_trans hS.1 z))) rfl hl.1 rfl (Nat.le_of_ble_eq_true rfl) dX7_addItem_55 ⟨Nat.le_of_ble_eq_true rfl, Nat.le_of_ble_eq_true rfl⟩ (fun r_55 H locs hG hz hk hS => ?_)
    obtain ⟨rfl, σ2, hR2, hP⟩ := hG
    refine lv_pop (pc := 58) hx hb dX7_addItem_58 rfl ?_
    refine lv_goto (pc := 59) (tgt := 105) hx hb dX7_addItem_59 (by decide) ?_
    exact W.vret hx hb hr (fun tz ht hW => ⟨⟨(), rfl, trivial, by dsimp only; rw [ht]; exact ⟨_, by have h := hR2; first | (rw [itG_a hkA]; exact h) | (rw [itG_c hkC]; exact h), hP⟩⟩, hS.F ht⟩) hS.2.2 dX7_addItem_105
set_option maxHeartbeats 4000000 in
set_option maxRecDepth 100000 in
theorem ct_X7_load (l : Launch) (D : va_G) (cI cT : ClassId) (sz : Nat) (ad : Nat → Nat) (σ : Nat → Int → Int) (g : Int → Int) (hR : Rel σ g) (hI : Inv g) (σs : Nat → Nat → Int → Int) (n m : Nat) (hs : Nat → Int → Int) (tl : Int) (tx rd rp : Int → Int) (hn : n ≤ 5) (hm : m < 5) (hC : cH σs n m hs) (hJ7 : zJ ad 127) (t0 : 0 ≤ tl) (t1 : tl ≤ 120) (htx : ∀ i : Int, 0 ≤ i → i < tl → 1 ≤ tx i ∧ tx i ≤ 255) (bs : Nat) (hB : ∀ k : Nat, k < 127 → bs ≤ ad k) : zMi l yX7_load wsX7_load ({ frames := 8, cells := 0, slots := 0, locals := 174 }) D cI cT [.ref (ad 120)] sz (fun U H => (zW D ad 20 (sC cI ad σ) H ∧ hO1 D ad (n : Int) (m : Int) H ∧ hO2 D cT ad H ∧ hQs D cI ad σs H ∧ cY D cI ad tl tx rd rp H) ∧ zSt bs U H) (fun rr H => ∃ (σ' : Nat → Int → Int) (σs' : Nat → Nat → Int → Int) (g' : Int → Int) (n' m' : Nat) (hs' : Nat → Int → Int) (tl' : Int) (rd' rp' : Int → Int), (Rel σ' g' ∧ cH σs' n' m' hs' ∧ n' ≤ 5 ∧ m' < 5) ∧ oD tx tl g n hs g' n' hs' tl' rr ∧ zW D ad 20 (sC cI ad σ') H ∧ hO1 D ad (n' : Int) (m' : Int) H ∧ hO2 D cT ad H ∧ hQs D cI ad σs' H ∧ cY D cI ad tl' tx rd' rp' H) (zR ad 127 sz) := by
  refine Met.ofW (cc := cX7_load) (maxL := 2) (ret := (some .int)) (by decide) rfl ?_
  intro p_ e_ s m_ args below meth c_ s₁ B hml hv
  obtain ⟨rfl, hsz, hK, hF⟩ := hv
  have hx := B.exec
  have hb := B.bytes
  have hr := B.returns
  have hts := atoms_spec (ws := wsX7_load) B.pre
  have hown : s.vm.findClass RX7 = some m_.cls := findClass_of_methodNamed B.named
  have hlocks := B.notSynchronized
  have S : CallFix p_ m_ c_ cX7_load 2 s _ wsX7_load RX7 := ⟨hx, hb, hml, hown, hts⟩
  have i_X7 : ∀ w ∈ u_ws RX7 TX7 4, w ∈ wsX7_load := fun _ h => List.mem_cons_of_mem _ (List.mem_append_left _ (List.mem_append_left _ (List.mem_append_left _ (List.mem_append_left _ (List.mem_append_left _ (List.mem_append_left _ (List.mem_append_left _ (List.mem_append_right _ h))))))))
  have i_X4 : ∀ w ∈ u_ws RX4 TX4 9, w ∈ wsX7_load := fun _ h => List.mem_cons_of_mem _ (List.mem_append_left _ (List.mem_append_left _ (List.mem_append_left _ (List.mem_append_left _ (List.mem_append_left _ (List.mem_append_left _ (List.mem_append_right _ h)))))))
  have i_X6 : ∀ w ∈ u_ws RX6 TX6 9, w ∈ wsX7_load := fun _ h => List.mem_cons_of_mem _ (List.mem_append_left _ (List.mem_append_left _ (List.mem_append_left _ (List.mem_append_left _ (List.mem_append_left _ (List.mem_append_right _ h))))))
  have i_X0 : ∀ w ∈ u_ws RX0 TX0 3, w ∈ wsX7_load := fun _ h => List.mem_cons_of_mem _ (List.mem_append_left _ (List.mem_append_left _ (List.mem_append_left _ (List.mem_append_left _ (List.mem_append_right _ h)))))
  have i_X3 : ∀ w ∈ u_ws RX3 TX3 8, w ∈ wsX7_load := fun _ h => List.mem_cons_of_mem _ (List.mem_append_left _ (List.mem_append_left _ (List.mem_append_left _ (List.mem_append_right _ h))))
  subst hsz
  generalize hAe : (zR ad 127 s.heap.size) = A
  have hAn : ∀ q : Nat, s.heap.size ≤ q → A q := fun q h => by rw [← hAe]; exact Or.inr h
  obtain ⟨H, hHe⟩ : ∃ H : Heap, H = s.heap := ⟨_, rfl⟩
  rw [← hHe] at hF ⊢
  have hS : va_S A s.heap H [] := by rw [hHe]; exact va_S.rf
  obtain ⟨⟨hP, hH1, hH2, hQ, hY⟩, hE⟩ := hF
  have hA7 : ∀ k : Nat, k < 127 → A (ad k) := fun k hk => by rw [← hAe]; exact Or.inl ⟨k, hk, rfl⟩
  have hAin : ∀ k : Nat, k < 20 → A (ad k) := fun k hk => hA7 k (by omega)
  have hJ : zJ ad 20 := zJ_le hJ7 (by decide)
  have hnC := iv_nC hI
  have hnA := iv_nA hI
  have hl := lv_entry ([.ref (ad 120)]) (n := 2) (Nat.le_of_ble_eq_true rfl)
  rw [lg_entry_eq]
  generalize (lg_sl ([.ref (ad 120)]) ++ List.replicate (2 - (lg_sl ([.ref (ad 120)])).length) Slot.unset).toArray = ls at hl ⊢
  have hl : lv_has ls 2 [(0, .ref (ad 120))] := hl
  refine lv_aload_n (pc := 0) hx hb dX7_load_0 rfl (lv_at hl 0 rfl) ?_
  refine zr_get (pc := 1) S hK hY.1 rfl i_X7 3 (by decide) (List.mem_of_getElem? (i := 1) rfl) rfl dX7_load_1 ?_
  refine lv_aload_n (pc := 4) hx hb dX7_load_4 rfl (lv_at hl 0 rfl) ?_
  refine zr_get (pc := 5) S hK hY.1 rfl i_X7 0 (by decide) (List.mem_of_getElem? (i := 2) rfl) rfl dX7_load_5 ?_
  refine zr_get (pc := 8) S hK (hP 0 (by decide)) rfl i_X4 0 (by decide) (List.mem_of_getElem? (i := 3) rfl) rfl dX7_load_8 ?_
  refine zr_get (pc := 11) S hK (hP 1 (by decide)) rfl i_X6 0 (by decide) (List.mem_of_getElem? (i := 4) rfl) rfl dX7_load_11 ?_
  refine zr_top (b := g 0) (rl_nC hR) ?_
  refine lv_aload_n (pc := 14) hx hb dX7_load_14 rfl (lv_at hl 0 rfl) ?_
  refine zr_get (pc := 15) S hK hY.1 rfl i_X7 0 (by decide) (List.mem_of_getElem? (i := 2) rfl) rfl dX7_load_15 ?_
  refine zr_get (pc := 18) S hK (hP 0 (by decide)) rfl i_X4 1 (by decide) (List.mem_of_getElem? (i := 5) rfl) rfl dX7_load_18 ?_
  refine zr_get (pc := 21) S hK (hP 2 (by decide)) rfl i_X0 0 (by decide) (List.mem_of_getElem? (i := 6) rfl) rfl dX7_load_21 ?_
  refine zr_top (b := g 1) (rl_nA hR) ?_
  refine zr_vwi2 (pc := 24) (As := [.int (zI (g 0)), .int (zI (g 1))]) (rest := []) S (ct_X3_readAll l D cI cT H.size ad tl tx (rd 0) (rd 1) (rd 2) (rd 3) (rd 4) (rd 5) rp hJ7 t0 t1 htx bs (hB 123 (by decide)) (hB 124 (by decide)) g hI) (cwV 2 hts gX7_load_X3_readAll rfl rfl rfl (by decide +kernel) ⟨Nat.le_of_ble_eq_true rfl, Nat.le_of_ble_eq_true rfl⟩) zs2_St hK ⟨cY_rD hY, hE⟩ (zr_recv hK hY.2.2.2.1 rfl) hS (fun q h => h.elim (fun z => z.elim (fun e => by rw [e]; exact hA7 123 (by decide)) (fun e => by rw [e]; exact hA7 124 (by decide))) (fun z => hAn q (Nat.le_trans hS.1 z))) rfl hl.1 rfl (Nat.le_of_ble_eq_true rfl) dX7_load_24 ⟨Nat.le_of_ble_eq_true rfl, Nat.le_of_ble_eq_true rfl⟩ (fun r_24 H locs hG hz hk hS => ?_)
  obtain ⟨i2, sa2, e2, t2, c2, a2, rp2, hY, hr_24⟩ := hG
  have hP := hP.keep hk (fun k k0 z => z.elim (fun z => z.elim (fun e => absurd (hJ7 k 123 (by omega) (by decide) e) (by omega)) (fun e => absurd (hJ7 k 124 (by omega) (by decide) e) (by omega))) (fun y => absurd (hP.lt k0) (Nat.not_lt.mpr y)))
  have hH1 := hH1.kept (hk _ hH1.lt (fun z => z.elim (fun z => z.elim (fun e => absurd (hJ7 125 123 (by omega) (by decide) e) (by omega)) (fun e => absurd (hJ7 125 124 (by omega) (by decide) e) (by omega))) (fun y => absurd hH1.lt (Nat.not_lt.mpr y))))
  have hH2 := hH2.kept (hk _ hH2.lt (fun z => z.elim (fun z => z.elim (fun e => absurd (hJ7 126 123 (by omega) (by decide) e) (by omega)) (fun e => absurd (hJ7 126 124 (by omega) (by decide) e) (by omega))) (fun y => absurd hH2.lt (Nat.not_lt.mpr y))))
  have hQ : hQs D cI ad _ H := fun j hj => (hQ j hj).keep hk (fun k k0 z => z.elim (fun z => z.elim (fun e => hd_ne hJ7 hj k0 (by decide) (by omega) e) (fun e => hd_ne hJ7 hj k0 (by decide) (by omega) e)) (fun y => absurd ((hQ j hj).lt k0) (Nat.not_lt.mpr y)))
  rcases hr_24 with ⟨kk, hL, rfl, hi2, hrp2⟩ | ⟨hL, rfl⟩
  · refine zr_if_ne (pc := 27) (tgt := 42) hx hb dX7_load_27 (by decide) (by decide) (fun _ => ?_) (fun z => absurd z (by decide))
    subst hi2
    have hkle := sq_le hI hL.1
    refine lv_aload_n (pc := 42) hx hb dX7_load_42 rfl (lv_at hl 0 rfl) ?_
    refine zr_get (pc := 43) S hK hY.1 rfl i_X7 1 (by decide) (List.mem_of_getElem? (i := 8) rfl) rfl dX7_load_43 ?_
    refine lv_aload_n (pc := 46) hx hb dX7_load_46 rfl (lv_at hl 0 rfl) ?_
    refine zr_get (pc := 47) S hK hY.1 rfl i_X7 0 (by decide) (List.mem_of_getElem? (i := 2) rfl) rfl dX7_load_47 ?_
    refine zr_vwv (pc := 50) (As := [.ref (ad 0)]) (rest := []) S (ct_X2_remember l D cI cT H.size ad σ σs n m hn hm hJ7) (cwV 1 hts gX7_load_X2_remember rfl rfl rfl (by decide +kernel) ⟨Nat.le_of_ble_eq_true rfl, Nat.le_of_ble_eq_true rfl⟩) zs0 hK ⟨hP, hH1, hH2, hQ⟩ (zr_recv hK hH1 rfl) hS (fun q h => h.elim (fun z => z.elim (fun e => by rw [e]; exact hA7 125 (by decide)) (fun ⟨j, k, hj, hk, e⟩ => by rw [e]; exact hA7 _ (by omega))) (fun z => hAn q (Nat.le_trans hS.1 z))) rfl hl.1 rfl (Nat.le_of_ble_eq_true rfl) dX7_load_50 ⟨Nat.le_of_ble_eq_true rfl, Nat.le_of_ble_eq_true rfl⟩ (fun H locs hG hz hk hS => ?_)
    obtain ⟨hH1, hH2, hQ⟩ := hG
    have hP := hP.keep hk (fun k k0 z => z.elim (fun z => z.elim (fun e => absurd (hJ7 k 125 (by omega) (by decide) e) (by omega)) (fun ⟨j, i, hj, hi, e⟩ => hd_ne hJ7 hj hi (by omega) (by omega) e.symm)) (fun y => absurd (hP.lt k0) (Nat.not_lt.mpr y)))
    have hY := hY.keep hk (fun k k0 k1 hlt z => z.elim (fun z => z.elim (fun e => absurd (hJ7 k 125 (by omega) (by decide) e) (by omega)) (fun ⟨j, i, hj, hi, e⟩ => hd_ne hJ7 hj hi (by omega) (by omega) e.symm)) (fun y => absurd hlt (Nat.not_lt.mpr y)))
    have hC := cH_push hC hn hm (rel_cp (σ := σs m) hR)
    rw [hpN_i n hn, nx_i m hm] at hH1
    refine lv_iconst (pc := 53) (v := zI 0) hx hb dX7_load_53 rfl ?_
    refine lv_istore_n (pc := 54) (lv' := [(1, .int (zI (0))), (0, .ref (ad 120))]) hx hb dX7_load_54 rfl hl (by decide) rfl (fun ls hl => ?_)
    refine zr_hloop2 (fun (j : Nat) (σj : Nat → Int → Int) (H : Heap) => ((j : Int) ≤ (kk : Int)) ∧ (Rel σj (sqG tx tl g j)) ∧ (zW D ad 20 (sC cI ad σj) H) ∧ (hO1 D ad ((hpN n : Nat) : Int) (((m + 1) % 5 : Nat) : Int) H) ∧ (hO2 D cT ad H) ∧ (hQs D cI ad (va_up σs m (cpS (σs m) σ)) H) ∧ (cY D cI ad tl tx (rD ((kk : Int)) sa2 e2 t2 c2 a2) rp2 H)) (fun (j : Nat) (σj : Nat → Int → Int) => kk - j) (fun (j : Nat) (σj : Nat → Int → Int) => [(0, .ref (ad 120)), (1, .int (zI ((j : Int))))]) ?_ (0) (σ) (⟨by omega, hR, hP, hH1, hH2, hQ, hY⟩) hS (lv_sub hl [1, 0] rfl)
    intro j σj H locs hinv hS ih_55 ls hl
    obtain ⟨hj, hRj, hP, hH1, hH2, hQ, hY⟩ := hinv
    have hIj := (sq_inv hI (sqO_le hL.1 (show j ≤ kk by omega))).1
    refine lv_iload_n (pc := 55) hx hb dX7_load_55 rfl (lv_at hl 1 rfl) ?_
    refine lv_aload_n (pc := 56) hx hb dX7_load_56 rfl (lv_at hl 0 rfl) ?_
    refine zr_get (pc := 57) S hK hY.1 rfl i_X7 3 (by decide) (List.mem_of_getElem? (i := 1) rfl) rfl dX7_load_57 ?_
    refine zr_get (pc := 60) S hK hY.2.2.2.1 rfl i_X3 0 (by decide) (List.mem_of_getElem? (i := 9) rfl) rfl dX7_load_60 ?_
    refine zr_top (b := (kk : Int)) rD_0 ?_
    refine zr_icmp_ge (pc := 63) (tgt := 77) hx hb dX7_load_63 (by decide) (by omega) (by omega) (fun c_63 => ?_) (fun c_63 => ?_)
    · refine lv_aload_n (pc := 77) hx hb dX7_load_77 rfl (lv_at hl 0 rfl) ?_
      refine zr_get (pc := 78) S hK hY.1 rfl i_X7 2 (by decide) (List.mem_of_getElem? (i := 10) rfl) rfl dX7_load_78 ?_
      refine zr_vwi (pc := 81) (As := []) (rest := []) S (ct_X5_empty l D cI cT H.size ad tl tx (rD ((kk : Int)) sa2 e2 t2 c2 a2) rp2 hJ7) (cwV 0 hts gX7_load_X5_empty rfl rfl rfl (by decide +kernel) ⟨Nat.le_of_ble_eq_true rfl, Nat.le_of_ble_eq_true rfl⟩) zs0 hK hY (zr_recv hK hY.2.1 rfl) hS (fun q h => h.elim (fun z => z.elim (fun e => by rw [e]; exact hA7 121 (by decide)) (fun e => by rw [e]; exact hA7 122 (by decide))) (fun z => hAn q (Nat.le_trans hS.1 z))) rfl hl.1 rfl (Nat.le_of_ble_eq_true rfl) dX7_load_81 ⟨Nat.le_of_ble_eq_true rfl, Nat.le_of_ble_eq_true rfl⟩ (fun r_81 H locs hG hz hk hS => ?_)
      obtain ⟨rfl, hY⟩ := hG
      have hP := hP.keep hk (fun k k0 z => z.elim (fun z => z.elim (fun e => absurd (hJ7 k 121 (by omega) (by decide) e) (by omega)) (fun e => absurd (hJ7 k 122 (by omega) (by decide) e) (by omega))) (fun y => absurd (hP.lt k0) (Nat.not_lt.mpr y)))
      have hH1 := hH1.kept (hk _ hH1.lt (fun z => z.elim (fun z => z.elim (fun e => absurd (hJ7 125 121 (by omega) (by decide) e) (by omega)) (fun e => absurd (hJ7 125 122 (by omega) (by decide) e) (by omega))) (fun y => absurd hH1.lt (Nat.not_lt.mpr y))))
      have hH2 := hH2.kept (hk _ hH2.lt (fun z => z.elim (fun z => z.elim (fun e => absurd (hJ7 126 121 (by omega) (by decide) e) (by omega)) (fun e => absurd (hJ7 126 122 (by omega) (by decide) e) (by omega))) (fun y => absurd hH2.lt (Nat.not_lt.mpr y))))
      have hQ : hQs D cI ad _ H := fun j hj => (hQ j hj).keep hk (fun k k0 z => z.elim (fun z => z.elim (fun e => hd_ne hJ7 hj k0 (by decide) (by omega) e) (fun e => hd_ne hJ7 hj k0 (by decide) (by omega) e)) (fun y => absurd ((hQ j hj).lt k0) (Nat.not_lt.mpr y)))
      refine lv_pop (pc := 84) hx hb dX7_load_84 rfl ?_
      refine lv_aload_n (pc := 85) hx hb dX7_load_85 rfl (lv_at hl 0 rfl) ?_
      refine zr_get (pc := 86) S hK hY.1 rfl i_X7 3 (by decide) (List.mem_of_getElem? (i := 1) rfl) rfl dX7_load_86 ?_
      refine zr_get (pc := 89) S hK hY.2.2.2.1 rfl i_X3 0 (by decide) (List.mem_of_getElem? (i := 9) rfl) rfl dX7_load_89 ?_
      refine zr_top (b := (kk : Int)) rD_0 ?_
      exact W.iret (v := zI ((kk : Int))) hx hb hr (fun tz ht hW => ⟨⟨zI ((kk : Int)), zI ((kk : Int)), rfl, rfl, by dsimp only; rw [ht]; exact ⟨_, _, _, _, _, _, _, _, _, ⟨hRj, hC, hpN_le n, Nat.mod_lt _ (by decide)⟩, Or.inl ⟨kk, hL, rfl, (by rw [show j = kk by omega]), rfl, rfl, rfl⟩, hP, hH1, hH2, hQ, hY⟩⟩, hS.F ht⟩) hS.2.2 dX7_load_92
    · refine lv_aload_n (pc := 66) hx hb dX7_load_66 rfl (lv_at hl 0 rfl) ?_
      refine lv_iload_n (pc := 67) hx hb dX7_load_67 rfl (lv_at hl 1 rfl) ?_
      refine zr_vwv (pc := 68) (As := [.int (zI ((j : Int)))]) (rest := []) S (ct_X7_addItem l D cI cT H.size ad σj (sqG tx tl g j) hRj hIj tl tx (rD ((kk : Int)) sa2 e2 t2 c2 a2) rp2 hJ7 t0 t1 htx (j : Int) (by omega) (by omega) (sqP tx tl j) (hL.1 j (by omega)).2 (hrp2 j (by omega))) (cwV 1 hts gX7_load_X7_addItem rfl rfl rfl (by decide +kernel) ⟨Nat.le_of_ble_eq_true rfl, Nat.le_of_ble_eq_true rfl⟩) zs0 hK ⟨hP, hY⟩ (zr_recv hK hY.1 rfl) hS (fun q h => h.elim (fun ⟨k, k0, e⟩ => by rw [e]; exact hAin k k0) (fun z => hAn q (Nat.le_trans hS.1 z))) rfl hl.1 rfl (Nat.le_of_ble_eq_true rfl) dX7_load_68 ⟨Nat.le_of_ble_eq_true rfl, Nat.le_of_ble_eq_true rfl⟩ (fun H locs hG hz hk hS => ?_)
      have hH1 := hH1.kept (hk _ hH1.lt (fun z => z.elim (fun ⟨i, i0, e⟩ => absurd (hJ7 125 i (by decide) (by omega) e) (by omega)) (fun y => absurd hH1.lt (Nat.not_lt.mpr y))))
      have hH2 := hH2.kept (hk _ hH2.lt (fun z => z.elim (fun ⟨i, i0, e⟩ => absurd (hJ7 126 i (by decide) (by omega) e) (by omega)) (fun y => absurd hH2.lt (Nat.not_lt.mpr y))))
      have hQ : hQs D cI ad _ H := fun j hj => (hQ j hj).keep hk (fun k k0 z => z.elim (fun ⟨i, i0, e⟩ => hd_ne hJ7 hj k0 (by omega) (by omega) e) (fun y => absurd ((hQ j hj).lt k0) (Nat.not_lt.mpr y)))
      have hY := hY.keep hk (fun k k0 k1 hlt z => z.elim (fun ⟨i, i0, e⟩ => absurd (hJ7 k i (by omega) (by omega) e) (by omega)) (fun y => absurd hlt (Nat.not_lt.mpr y)))
      obtain ⟨σ3, hR3, hP⟩ := hG
      refine zr_iinc (pc := 71) (d := ((j : Int)) + 1) (lv' := [(1, .int (zI (((j : Int)) + 1))), (0, .ref (ad 120))]) hx hb dX7_load_71 hl (k := 1) rfl rfl (by decide) rfl (fun ls hl => ?_)
      refine lv_goto (pc := 74) (tgt := 55) hx hb dX7_load_74 (by decide) ?_
      exact ih_55 (j + 1) (σ3) H locs (⟨by omega, hR3, hP, hH1, hH2, hQ, hY⟩) hS (by omega) ls (lv_sub hl [1, 0] rfl)
  · refine zr_if_ne (pc := 27) (tgt := 42) hx hb dX7_load_27 (by decide) (by decide) (fun z => absurd z (by decide)) (fun _ => ?_)
    refine lv_sipush (pc := 30) (v := zI (-10000)) hx hb dX7_load_30 zc_sipush_m10000 ?_
    refine lv_aload_n (pc := 33) hx hb dX7_load_33 rfl (lv_at hl 0 rfl) ?_
    refine zr_get (pc := 34) S hK hY.1 rfl i_X7 3 (by decide) (List.mem_of_getElem? (i := 1) rfl) rfl dX7_load_34 ?_
    refine zr_get (pc := 37) S hK hY.2.2.2.1 rfl i_X3 1 (by decide) (List.mem_of_getElem? (i := 7) rfl) rfl dX7_load_37 ?_
    refine zr_top (b := sa2) rD_1 ?_
    refine zr_isub (pc := 40) (d := ((-10000)) - sa2) hx hb dX7_load_40 rfl ?_
    exact W.iret (v := zI (((-10000)) - sa2)) hx hb hr (fun tz ht hW => ⟨⟨zI (((-10000)) - sa2), zI (((-10000)) - sa2), rfl, rfl, by dsimp only; rw [ht]; exact ⟨_, _, _, _, _, _, _, _, _, ⟨hR, hC, hn, hm⟩, Or.inr ⟨sa2, hL, rfl, rfl, rfl, rfl, rfl⟩, hP, hH1, hH2, hQ, hY⟩⟩, hS.F ht⟩) hS.2.2 dX7_load_41
