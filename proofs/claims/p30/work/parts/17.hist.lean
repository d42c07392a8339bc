set_option maxHeartbeats 4000000 in
set_option maxRecDepth 100000 in
theorem ct_X2_stateAt (l : Launch) (D : va_G) (cI cT : ClassId) (ad : Nat → Nat) (n z : Int) (m : Nat) (hm : m < 5) (hJ : zJ ad 127) : zMq l yX2_stateAt wsX2_stateAt ({ frames := 0, cells := 0, slots := 0, locals := 0 }) D cI cT [.ref (ad 125), .int (zI ((m : Int)))] (fun _ H => hO1 D ad n z H ∧ hO2 D cT ad H) (fun k => m = k) (fun k => .ref (ad (20 * (k + 1)))) := by
  refine Met.ofW (cc := cX2_stateAt) (maxL := 2) (ret := (some (.object "CostumeStock$State"))) (by decide) rfl ?_
  intro p_ e_ s m_ args below meth c_ s₁ B hml hv
  obtain ⟨rfl, hK, hF⟩ := hv
  have hx := B.exec
  have hb := B.bytes
  have hr := B.returns
  have hts := atoms_spec (ws := wsX2_stateAt) B.pre
  have hown : s.vm.findClass RX2 = some m_.cls := findClass_of_methodNamed B.named
  have hlocks := B.notSynchronized
  have S : CallFix p_ m_ c_ cX2_stateAt 2 s _ wsX2_stateAt RX2 := ⟨hx, hb, hml, hown, hts⟩
  have i_X2 : ∀ w ∈ u_ws RX2 TX2 3, w ∈ wsX2_stateAt := fun _ h => List.mem_cons_of_mem _ (List.mem_append_right _ h)
  have hH1 := hF.1
  have hH2 := hF.2
  have hl := lv_entry ([.ref (ad 125), .int (zI ((m : Int)))]) (n := 2) (Nat.le_of_ble_eq_true rfl)
  rw [lg_entry_eq]
  generalize (lg_sl ([.ref (ad 125), .int (zI ((m : Int)))]) ++ List.replicate (2 - (lg_sl ([.ref (ad 125), .int (zI ((m : Int)))])).length) Slot.unset).toArray = ls at hl ⊢
  have hl : lv_has ls 2 [(0, .ref (ad 125)), (1, .int (zI ((m : Int))))] := hl
  refine lv_iload_n (pc := 0) hx hb dX2_stateAt_0 rfl (lv_at hl 1 rfl) ?_
  refine zr_if_lt (pc := 1) (tgt := 22) hx hb dX2_stateAt_1 (by decide) (by omega) (fun c_1 => ?_) (fun c_1 => ?_)
  · exact absurd c_1 (by omega)
  · refine lv_iload_n (pc := 4) hx hb dX2_stateAt_4 rfl (lv_at hl 1 rfl) ?_
    refine lv_aload_n (pc := 5) hx hb dX2_stateAt_5 rfl (lv_at hl 0 rfl) ?_
    refine zr_get (pc := 6) S hK hH1 rfl i_X2 2 (by decide) (List.mem_of_getElem? (i := 1) rfl) rfl dX2_stateAt_6 ?_
    refine zr_aalen (pc := 9) hx hb hK hH2 dX2_stateAt_9 ?_
    refine zr_icmp_ge (pc := 10) (tgt := 22) hx hb dX2_stateAt_10 (by decide) (by omega) (by decide) (fun c_10 => ?_) (fun c_10 => ?_)
    · exact absurd c_10 (by omega)
    · refine lv_aload_n (pc := 13) hx hb dX2_stateAt_13 rfl (lv_at hl 0 rfl) ?_
      refine zr_get (pc := 14) S hK hH1 rfl i_X2 2 (by decide) (List.mem_of_getElem? (i := 1) rfl) rfl dX2_stateAt_14 ?_
      refine lv_iload_n (pc := 17) hx hb dX2_stateAt_17 rfl (lv_at hl 1 rfl) ?_
      refine zr_aald (pc := 18) hx hb hK hH2 hm (by decide) rfl dX2_stateAt_18 ?_
      refine lv_goto (pc := 19) (tgt := 23) hx hb dX2_stateAt_19 (by decide) ?_
      exact W.aret hx hb hr (Or.inl ⟨_, rfl⟩) (Or.inr ⟨_, rfl⟩) (fun tz ht hW => ⟨m, rfl, rfl, ht⟩) (fun _ h => by cases h) dX2_stateAt_23
set_option maxHeartbeats 4000000 in
set_option maxRecDepth 100000 in
theorem ct_X2_remember (l : Launch) (D : va_G) (cI cT : ClassId) (sz : Nat) (ad : Nat → Nat) (σ : Nat → Int → Int) (σs : Nat → Nat → Int → Int) (n m : Nat) (hn : n ≤ 5) (hm : m < 5) (hJ : zJ ad 127) : zMv l yX2_remember wsX2_remember ({ frames := 4, cells := 0, slots := 0, locals := 93 }) D cI cT [.ref (ad 125), .ref (ad 0)] sz (fun _ H => zW D ad 20 (sC cI ad σ) H ∧ hO1 D ad n m H ∧ hO2 D cT ad H ∧ hQs D cI ad σs H) (fun H => hO1 D ad (min ((n : Int) + 1) 5) (if m + 1 < 5 then (m : Int) + 1 else 0) H ∧ hO2 D cT ad H ∧ hQs D cI ad (va_up σs m (cpS (σs m) σ)) H) (zRh ad sz) := by
  refine Met.ofW (cc := cX2_remember) (maxL := 3) (ret := none) (by decide) rfl ?_
  intro p_ e_ s m_ args below meth c_ s₁ B hml hv
  obtain ⟨rfl, hsz, hK, hF⟩ := hv
  have hx := B.exec
  have hb := B.bytes
  have hr := B.returns
  have hts := atoms_spec (ws := wsX2_remember) B.pre
  have hown : s.vm.findClass RX2 = some m_.cls := findClass_of_methodNamed B.named
  have hlocks := B.notSynchronized
  have S : CallFix p_ m_ c_ cX2_remember 3 s _ wsX2_remember RX2 := ⟨hx, hb, hml, hown, hts⟩
  have i_X2 : ∀ w ∈ u_ws RX2 TX2 3, w ∈ wsX2_remember := fun _ h => List.mem_cons_of_mem _ (List.mem_append_left _ (List.mem_append_left _ (List.mem_append_left _ (List.mem_append_left _ (List.mem_append_right _ h)))))
  subst hsz
  generalize hAe : (zRh ad s.heap.size) = A
  have hAn : ∀ q : Nat, s.heap.size ≤ q → A q := fun q h => by rw [← hAe]; exact Or.inr h
  obtain ⟨H, hHe⟩ : ∃ H : Heap, H = s.heap := ⟨_, rfl⟩
  rw [← hHe] at hF ⊢
  have hS : va_S A s.heap H [] := by rw [hHe]; exact va_S.rf
  obtain ⟨hP, hH1, hH2, hQ⟩ := hF
  have hA125 : A (ad 125) := by rw [← hAe]; exact Or.inl (Or.inl rfl)
  have hAh : ∀ j k : Nat, j < 5 → k < 20 → A (hd ad j k) := fun j k hj hk => by rw [← hAe]; exact Or.inl (Or.inr ⟨j, k, hj, hk, rfl⟩)
  have hl := lv_entry ([.ref (ad 125), .ref (ad 0)]) (n := 3) (Nat.le_of_ble_eq_true rfl)
  rw [lg_entry_eq]
  generalize (lg_sl ([.ref (ad 125), .ref (ad 0)]) ++ List.replicate (3 - (lg_sl ([.ref (ad 125), .ref (ad 0)])).length) Slot.unset).toArray = ls at hl ⊢
  have hl : lv_has ls 3 [(0, .ref (ad 125)), (1, .ref (ad 0))] := hl
  refine lv_aload_n (pc := 0) hx hb dX2_remember_0 rfl (lv_at hl 0 rfl) ?_
  refine lv_aload_n (pc := 1) hx hb dX2_remember_1 rfl (lv_at hl 0 rfl) ?_
  refine zr_get (pc := 2) S hK hH1 rfl i_X2 1 (by decide) (List.mem_of_getElem? (i := 1) rfl) rfl dX2_remember_2 ?_
  refine zr_vr (pc := 5) (As := [.int (zI ((m : Int)))]) (rest := []) S (ct_X2_stateAt l D cI cT ad n m m hm hJ) (cwV 1 hts gX2_remember_X2_stateAt rfl rfl rfl (by decide +kernel) ⟨Nat.le_of_ble_eq_true rfl, Nat.le_of_ble_eq_true rfl⟩) zs0 hK ⟨hH1, hH2⟩ (zr_recv hK hH1 rfl) rfl hl.1 rfl (Nat.le_of_ble_eq_true rfl) dX2_remember_5 ⟨Nat.le_of_ble_eq_true rfl, Nat.le_of_ble_eq_true rfl⟩ (fun k_5 hk_5 => ?_)
  subst hk_5
  refine lv_astore_n (pc := 8) (lv' := [(2, .ref (ad (20 * (m + 1)))), (0, .ref (ad 125)), (1, .ref (ad 0))]) hx hb dX2_remember_8 rfl hl (by decide) rfl (fun ls hl => ?_)
  refine lv_aload_n (pc := 9) hx hb dX2_remember_9 rfl (lv_at hl 0 rfl) ?_
  refine lv_ifnonnull (pc := 10) (tgt := 14) hx hb dX2_remember_10 (by decide) ?_
  refine lv_aload_n (pc := 14) hx hb dX2_remember_14 rfl (lv_at hl 0 rfl) ?_
  refine lv_aload_n (pc := 15) hx hb dX2_remember_15 rfl (lv_at hl 2 rfl) ?_
  refine zr_vwv (pc := 16) (As := [.ref (ad 0)]) (rest := []) S (ct_X4_become l D cI cT H.size (hd ad m) ad (σs m) σ (hd_J hJ hm) (fun i j hi hj => hd_ne hJ hm hi (by omega) (by omega))) (cwV 1 hts gX2_remember_X4_become rfl rfl rfl (by decide +kernel) ⟨Nat.le_of_ble_eq_true rfl, Nat.le_of_ble_eq_true rfl⟩) zs0 hK ⟨hQ m hm, hP⟩ (zr_recv hK ((hQ m hm) 0 (by decide)) rfl) hS (fun q h => h.elim (fun ⟨k, k0, e⟩ => by rw [e]; exact hAh _ k hm k0) (fun z => hAn q (Nat.le_trans hS.1 z))) rfl hl.1 rfl (Nat.le_of_ble_eq_true rfl) dX2_remember_16 ⟨Nat.le_of_ble_eq_true rfl, Nat.le_of_ble_eq_true rfl⟩ (fun H locs hG hz hk hS => ?_)
  have hH1 := hH1.kept (hk _ hH1.lt (fun z => z.elim (fun ⟨i, i0, e⟩ => hd_ne hJ hm i0 (by decide) (by omega) e.symm) (fun y => absurd hH1.lt (Nat.not_lt.mpr y))))
  have hH2 := hH2.kept (hk _ hH2.lt (fun z => z.elim (fun ⟨i, i0, e⟩ => hd_ne hJ hm i0 (by decide) (by omega) e.symm) (fun y => absurd hH2.lt (Nat.not_lt.mpr y))))
  have hP := hP.keep hk (fun k k0 z => z.elim (fun ⟨i, i0, e⟩ => hd_ne hJ hm i0 (by omega) (by omega) e.symm) (fun y => absurd (hP.lt k0) (Nat.not_lt.mpr y)))
  have hQ : hQs D cI ad (va_up σs m (cpS (σs m) σ)) H := fun j hj => by
    by_cases e : j = m
    · rw [e, va_up_self]; exact hG
    · rw [va_up_ne _ _ e]; exact (hQ j hj).keep hk (fun k k0 z => z.elim (fun ⟨i, i0, q⟩ => hd_ne hJ hj k0 (i := 20 * (m + 1) + i) (by omega) (by omega) q) (fun y => absurd ((hQ j hj).lt k0) (Nat.not_lt.mpr y)))
  refine lv_aload_n (pc := 19) hx hb dX2_remember_19 rfl (lv_at hl 1 rfl) ?_
  refine lv_aload_n (pc := 20) hx hb dX2_remember_20 rfl (lv_at hl 1 rfl) ?_
  refine zr_get (pc := 21) S hK hH1 rfl i_X2 1 (by decide) (List.mem_of_getElem? (i := 1) rfl) rfl dX2_remember_21 ?_
  refine lv_iconst (pc := 24) (v := zI 1) hx hb dX2_remember_24 rfl ?_
  refine zr_iadd (pc := 25) (d := ((m : Int)) + 1) hx hb dX2_remember_25 rfl ?_
  refine lv_iconst (pc := 26) (v := zI 5) hx hb dX2_remember_26 rfl ?_
  refine zr_icmp_ge (pc := 27) (tgt := 39) hx hb dX2_remember_27 (by decide) (by omega) (by decide) (fun c_27 => ?_) (fun c_27 => ?_)
  · refine lv_iconst (pc := 39) (v := zI 0) hx hb dX2_remember_39 rfl ?_
    refine zr_put (pc := 40) S hK hH1 rfl i_X2 tyX2 tyX2_ok nmX2 1 (by decide) (List.mem_of_getElem? (i := 1) rfl) rfl rfl rfl (Nat.le_of_ble_eq_true rfl) hS hA125 dX2_remember_40 (fun H locs hO hz hk hS => ?_)
    have hH2 := hH2.kept (hk _ hH2.lt (fun e => absurd (hJ 126 125 (by decide) (by decide) e) (by decide)))
    have hQ : hQs D cI ad _ H := fun j hj => (hQ j hj).keep (A1 := fun q => q = ad 125) (fun q h z => hk q h z) (fun k k0 e => hd_ne hJ hj k0 (by decide) (by omega) e)
    have hP := hP.keep (A1 := fun q => q = ad 125) (fun q h z => hk q h z) (fun k k0 e => absurd (hJ k 125 (by omega) (by decide) e) (by omega))
    have hH1 := hO
    refine lv_aload_n (pc := 43) hx hb dX2_remember_43 rfl (lv_at hl 1 rfl) ?_
    refine lv_aload_n (pc := 44) hx hb dX2_remember_44 rfl (lv_at hl 1 rfl) ?_
    refine zr_get (pc := 45) S hK hH1 rfl i_X2 0 (by decide) (List.mem_of_getElem? (i := 2) rfl) rfl dX2_remember_45 ?_
    refine lv_iconst (pc := 48) (v := zI 1) hx hb dX2_remember_48 rfl ?_
    refine zr_iadd (pc := 49) (d := ((n : Int)) + 1) hx hb dX2_remember_49 rfl ?_
    refine lv_iconst (pc := 50) (v := zI 5) hx hb dX2_remember_50 rfl ?_
    refine zr_mmin (pc := 51) hx hb (hml.trans hl.1.symm) hown (hts _ (List.mem_of_getElem? (i := 3) rfl)) (hts _ (List.mem_of_getElem? (i := 4) rfl)) (hts _ (List.mem_of_getElem? (i := 5) rfl)) (hts _ (List.mem_of_getElem? (i := 6) rfl)) (Nat.le_of_ble_eq_true rfl) (Nat.le_of_ble_eq_true rfl) (Nat.le_of_ble_eq_true rfl) (Nat.le_of_ble_eq_true rfl) dX2_remember_51 (by omega) (by decide) (rfl : _ = min (((n : Int)) + 1) 5) ?_
    refine zr_put (pc := 54) S hK hH1 rfl i_X2 tyX2 tyX2_ok nmX2 0 (by decide) (List.mem_of_getElem? (i := 2) rfl) rfl rfl rfl (Nat.le_of_ble_eq_true rfl) hS hA125 dX2_remember_54 (fun H locs hO hz hk hS => ?_)
    have hH2 := hH2.kept (hk _ hH2.lt (fun e => absurd (hJ 126 125 (by decide) (by decide) e) (by decide)))
    have hQ : hQs D cI ad _ H := fun j hj => (hQ j hj).keep (A1 := fun q => q = ad 125) (fun q h z => hk q h z) (fun k k0 e => hd_ne hJ hj k0 (by decide) (by omega) e)
    have hP := hP.keep (A1 := fun q => q = ad 125) (fun q h z => hk q h z) (fun k k0 e => absurd (hJ k 125 (by omega) (by decide) e) (by omega))
    have hH1 := hO
    exact W.vret hx hb hr (fun tz ht hW => ⟨⟨(), rfl, trivial, by dsimp only; rw [ht]; exact ⟨by first | (rw [if_pos (by omega)]; exact hH1) | (rw [if_neg (by omega)]; exact hH1), hH2, hQ⟩⟩, hS.F ht⟩) hS.2.2 dX2_remember_57
  · refine lv_aload_n (pc := 30) hx hb dX2_remember_30 rfl (lv_at hl 1 rfl) ?_
    refine zr_get (pc := 31) S hK hH1 rfl i_X2 1 (by decide) (List.mem_of_getElem? (i := 1) rfl) rfl dX2_remember_31 ?_
    refine lv_iconst (pc := 34) (v := zI 1) hx hb dX2_remember_34 rfl ?_
    refine zr_iadd (pc := 35) (d := ((m : Int)) + 1) hx hb dX2_remember_35 rfl ?_
    refine lv_goto (pc := 36) (tgt := 40) hx hb dX2_remember_36 (by decide) ?_
    refine zr_put (pc := 40) S hK hH1 rfl i_X2 tyX2 tyX2_ok nmX2 1 (by decide) (List.mem_of_getElem? (i := 1) rfl) rfl rfl rfl (Nat.le_of_ble_eq_true rfl) hS hA125 dX2_remember_40 (fun H locs hO hz hk hS => ?_)
    have hH2 := hH2.kept (hk _ hH2.lt (fun e => absurd (hJ 126 125 (by decide) (by decide) e) (by decide)))
    have hQ : hQs D cI ad _ H := fun j hj => (hQ j hj).keep (A1 := fun q => q = ad 125) (fun q h z => hk q h z) (fun k k0 e => hd_ne hJ hj k0 (by decide) (by omega) e)
    have hP := hP.keep (A1 := fun q => q = ad 125) (fun q h z => hk q h z) (fun k k0 e => absurd (hJ k 125 (by omega) (by decide) e) (by omega))
    have hH1 := hO
    refine lv_aload_n (pc := 43) hx hb dX2_remember_43 rfl (lv_at hl 1 rfl) ?_
    refine lv_aload_n (pc := 44) hx hb dX2_remember_44 rfl (lv_at hl 1 rfl) ?_
    refine zr_get (pc := 45) S hK hH1 rfl i_X2 0 (by decide) (List.mem_of_getElem? (i := 2) rfl) rfl dX2_remember_45 ?_
    refine lv_iconst (pc := 48) (v := zI 1) hx hb dX2_remember_48 rfl ?_
    refine zr_iadd (pc := 49) (d := ((n : Int)) + 1) hx hb dX2_remember_49 rfl ?_
    refine lv_iconst (pc := 50) (v := zI 5) hx hb dX2_remember_50 rfl ?_
    refine zr_mmin (pc := 51) hx hb (hml.trans hl.1.symm) hown (hts _ (List.mem_of_getElem? (i := 3) rfl)) (hts _ (List.mem_of_getElem? (i := 4) rfl)) (hts _ (List.mem_of_getElem? (i := 5) rfl)) (hts _ (List.mem_of_getElem? (i := 6) rfl)) (Nat.le_of_ble_eq_true rfl) (Nat.le_of_ble_eq_true rfl) (Nat.le_of_ble_eq_true rfl) (Nat.le_of_ble_eq_true rfl) dX2_remember_51 (by omega) (by decide) (rfl : _ = min (((n : Int)) + 1) 5) ?_
    refine zr_put (pc := 54) S hK hH1 rfl i_X2 tyX2 tyX2_ok nmX2 0 (by decide) (List.mem_of_getElem? (i := 2) rfl) rfl rfl rfl (Nat.le_of_ble_eq_true rfl) hS hA125 dX2_remember_54 (fun H locs hO hz hk hS => ?_)
    have hH2 := hH2.kept (hk _ hH2.lt (fun e => absurd (hJ 126 125 (by decide) (by decide) e) (by decide)))
    have hQ : hQs D cI ad _ H := fun j hj => (hQ j hj).keep (A1 := fun q => q = ad 125) (fun q h z => hk q h z) (fun k k0 e => hd_ne hJ hj k0 (by decide) (by omega) e)
    have hP := hP.keep (A1 := fun q => q = ad 125) (fun q h z => hk q h z) (fun k k0 e => absurd (hJ k 125 (by omega) (by decide) e) (by omega))
    have hH1 := hO
    exact W.vret hx hb hr (fun tz ht hW => ⟨⟨(), rfl, trivial, by dsimp only; rw [ht]; exact ⟨by first | (rw [if_pos (by omega)]; exact hH1) | (rw [if_neg (by omega)]; exact hH1), hH2, hQ⟩⟩, hS.F ht⟩) hS.2.2 dX2_remember_57
set_option maxHeartbeats 4000000 in
set_option maxRecDepth 100000 in
theorem ct_X2_restore (l : Launch) (D : va_G) (cI cT : ClassId) (sz : Nat) (ad : Nat → Nat) (σ : Nat → Int → Int) (σs : Nat → Nat → Int → Int) (n m k : Nat) (hn : n ≤ 5) (hn0 : 0 < n) (hm : m < 5) (hk5 : k < 5) (hkm : (0 < m ∧ k + 1 = m) ∨ (m = 0 ∧ k = 4)) (hJ : zJ ad 127) : zMv l yX2_restore wsX2_restore ({ frames := 4, cells := 0, slots := 0, locals := 93 }) D cI cT [.ref (ad 125), .ref (ad 0)] sz (fun _ H => zW D ad 20 (sC cI ad σ) H ∧ hO1 D ad n m H ∧ hO2 D cT ad H ∧ hQs D cI ad σs H) (fun H => zW D ad 20 (sC cI ad (cpS σ (σs k))) H ∧ hO1 D ad ((n - 1 : Nat) : Int) (k : Int) H ∧ hO2 D cT ad H ∧ hQs D cI ad σs H) (fun q => (q = ad 125 ∨ ∃ k : Nat, k < 20 ∧ q = ad k) ∨ sz ≤ q) := by
  refine Met.ofW (cc := cX2_restore) (maxL := 4) (ret := none) (by decide) rfl ?_
  intro p_ e_ s m_ args below meth c_ s₁ B hml hv
  obtain ⟨rfl, hsz, hK, hF⟩ := hv
  have hx := B.exec
  have hb := B.bytes
  have hr := B.returns
  have hts := atoms_spec (ws := wsX2_restore) B.pre
  have hown : s.vm.findClass RX2 = some m_.cls := findClass_of_methodNamed B.named
  have hlocks := B.notSynchronized
  have S : CallFix p_ m_ c_ cX2_restore 4 s _ wsX2_restore RX2 := ⟨hx, hb, hml, hown, hts⟩
  have i_X2 : ∀ w ∈ u_ws RX2 TX2 3, w ∈ wsX2_restore := fun _ h => List.mem_cons_of_mem _ (List.mem_append_left _ (List.mem_append_left _ (List.mem_append_left _ (List.mem_append_left _ (List.mem_append_right _ h)))))
  subst hsz
  generalize hAe : (fun q => (q = ad 125 ∨ ∃ k : Nat, k < 20 ∧ q = ad k) ∨ s.heap.size ≤ q) = A
  have hAn : ∀ q : Nat, s.heap.size ≤ q → A q := fun q h => by rw [← hAe]; exact Or.inr h
  obtain ⟨H, hHe⟩ : ∃ H : Heap, H = s.heap := ⟨_, rfl⟩
  rw [← hHe] at hF ⊢
  have hS : va_S A s.heap H [] := by rw [hHe]; exact va_S.rf
  obtain ⟨hP, hH1, hH2, hQ⟩ := hF
  have hA125 : A (ad 125) := by rw [← hAe]; exact Or.inl (Or.inl rfl)
  have hAc : ∀ k : Nat, k < 20 → A (ad k) := fun k hk => by rw [← hAe]; exact Or.inl (Or.inr ⟨k, hk, rfl⟩)
  have hl := lv_entry ([.ref (ad 125), .ref (ad 0)]) (n := 4) (Nat.le_of_ble_eq_true rfl)
  rw [lg_entry_eq]
  generalize (lg_sl ([.ref (ad 125), .ref (ad 0)]) ++ List.replicate (4 - (lg_sl ([.ref (ad 125), .ref (ad 0)])).length) Slot.unset).toArray = ls at hl ⊢
  have hl : lv_has ls 4 [(0, .ref (ad 125)), (1, .ref (ad 0))] := hl
  refine lv_aload_n (pc := 0) hx hb dX2_restore_0 rfl (lv_at hl 0 rfl) ?_
  refine zr_get (pc := 1) S hK hH1 rfl i_X2 1 (by decide) (List.mem_of_getElem? (i := 1) rfl) rfl dX2_restore_1 ?_
  refine zr_if_le (pc := 4) (tgt := 16) hx hb dX2_restore_4 (by decide) (by omega) (fun c_4 => ?_) (fun c_4 => ?_)
  · refine lv_iconst (pc := 16) (v := zI 4) hx hb dX2_restore_16 rfl ?_
    refine zr_top (b := (k : Int)) (by omega) ?_
    refine lv_istore_n (pc := 17) (lv' := [(2, .int (zI ((k : Int)))), (0, .ref (ad 125)), (1, .ref (ad 0))]) hx hb dX2_restore_17 rfl hl (by decide) rfl (fun ls hl => ?_)
    refine lv_aload_n (pc := 18) hx hb dX2_restore_18 rfl (lv_at hl 1 rfl) ?_
    refine lv_iload_n (pc := 19) hx hb dX2_restore_19 rfl (lv_at hl 0 rfl) ?_
    refine zr_vr (pc := 20) (As := [.int (zI ((k : Int)))]) (rest := []) S (ct_X2_stateAt l D cI cT ad n m k hk5 hJ) (cwV 1 hts gX2_restore_X2_stateAt rfl rfl rfl (by decide +kernel) ⟨Nat.le_of_ble_eq_true rfl, Nat.le_of_ble_eq_true rfl⟩) zs0 hK ⟨hH1, hH2⟩ (zr_recv hK hH1 rfl) rfl hl.1 rfl (Nat.le_of_ble_eq_true rfl) dX2_restore_20 ⟨Nat.le_of_ble_eq_true rfl, Nat.le_of_ble_eq_true rfl⟩ (fun k_20 hk_20 => ?_)
    subst hk_20
    refine lv_astore_n (pc := 23) (lv' := [(3, .ref (ad (20 * (k + 1)))), (2, .int (zI ((k : Int)))), (0, .ref (ad 125)), (1, .ref (ad 0))]) hx hb dX2_restore_23 rfl hl (by decide) rfl (fun ls hl => ?_)
    refine lv_aload_n (pc := 24) hx hb dX2_restore_24 rfl (lv_at hl 2 rfl) ?_
    refine zr_get (pc := 25) S hK hH1 rfl i_X2 0 (by decide) (List.mem_of_getElem? (i := 2) rfl) rfl dX2_restore_25 ?_
    refine zr_if_le (pc := 28) (tgt := 35) hx hb dX2_restore_28 (by decide) (by omega) (fun c_28 => ?_) (fun c_28 => ?_)
    · exact absurd c_28 (by omega)
    · refine lv_aload_n (pc := 31) hx hb dX2_restore_31 rfl (lv_at hl 0 rfl) ?_
      refine lv_ifnonnull (pc := 32) (tgt := 36) hx hb dX2_restore_32 (by decide) ?_
      refine lv_aload_n (pc := 36) hx hb dX2_restore_36 rfl (lv_at hl 3 rfl) ?_
      refine lv_aload_n (pc := 37) hx hb dX2_restore_37 rfl (lv_at hl 0 rfl) ?_
      refine zr_vwv (pc := 38) (As := [.ref (ad (20 * (k + 1)))]) (rest := []) S (ct_X4_become l D cI cT H.size ad (hd ad k) σ (σs k) (zJ_le hJ (by decide)) (fun i j hi hj e => hd_ne hJ hk5 hj (by omega) (by omega) e.symm)) (cwV 1 hts gX2_restore_X4_become rfl rfl rfl (by decide +kernel) ⟨Nat.le_of_ble_eq_true rfl, Nat.le_of_ble_eq_true rfl⟩) zs0 hK ⟨hP, hQ k hk5⟩ (zr_recv hK (hP 0 (by decide)) rfl) hS (fun q h => h.elim (fun ⟨k, k0, e⟩ => by rw [e]; exact hAc k k0) (fun z => hAn q (Nat.le_trans hS.1 z))) rfl hl.1 rfl (Nat.le_of_ble_eq_true rfl) dX2_restore_38 ⟨Nat.le_of_ble_eq_true rfl, Nat.le_of_ble_eq_true rfl⟩ (fun H locs hG hz hk hS => ?_)
      have hH1 := hH1.kept (hk _ hH1.lt (fun z => z.elim (fun ⟨i, i0, e⟩ => absurd (hJ 125 i (by decide) (by omega) e) (by omega)) (fun y => absurd hH1.lt (Nat.not_lt.mpr y))))
      have hH2 := hH2.kept (hk _ hH2.lt (fun z => z.elim (fun ⟨i, i0, e⟩ => absurd (hJ 126 i (by decide) (by omega) e) (by omega)) (fun y => absurd hH2.lt (Nat.not_lt.mpr y))))
      have hQ : hQs D cI ad σs H := fun j hj => (hQ j hj).keep hk (fun k k0 z => z.elim (fun ⟨i, i0, q⟩ => hd_ne hJ hj k0 (by omega) (by omega) q) (fun y => absurd ((hQ j hj).lt k0) (Nat.not_lt.mpr y)))
      have hP := hG
      refine lv_aload_n (pc := 41) hx hb dX2_restore_41 rfl (lv_at hl 2 rfl) ?_
      refine lv_iload_n (pc := 42) hx hb dX2_restore_42 rfl (lv_at hl 1 rfl) ?_
      refine zr_put (pc := 43) S hK hH1 rfl i_X2 tyX2 tyX2_ok nmX2 1 (by decide) (List.mem_of_getElem? (i := 1) rfl) rfl rfl rfl (Nat.le_of_ble_eq_true rfl) hS hA125 dX2_restore_43 (fun H locs hO hz hk hS => ?_)
      have hH2 := hH2.kept (hk _ hH2.lt (fun e => absurd (hJ 126 125 (by decide) (by decide) e) (by decide)))
      have hQ : hQs D cI ad _ H := fun j hj => (hQ j hj).keep (A1 := fun q => q = ad 125) (fun q h z => hk q h z) (fun k k0 e => hd_ne hJ hj k0 (by decide) (by omega) e)
      have hP := hP.keep (A1 := fun q => q = ad 125) (fun q h z => hk q h z) (fun k k0 e => absurd (hJ k 125 (by omega) (by decide) e) (by omega))
      have hH1 := hO
      refine lv_aload_n (pc := 46) hx hb dX2_restore_46 rfl (lv_at hl 2 rfl) ?_
      refine lv_dup (pc := 47) hx hb dX2_restore_47 rfl ?_
      refine zr_get (pc := 48) S hK hH1 rfl i_X2 0 (by decide) (List.mem_of_getElem? (i := 2) rfl) rfl dX2_restore_48 ?_
      refine lv_iconst (pc := 51) (v := zI 1) hx hb dX2_restore_51 rfl ?_
      refine zr_isub (pc := 52) (d := ((n : Int)) - 1) hx hb dX2_restore_52 rfl ?_
      refine zr_put (pc := 53) S hK hH1 rfl i_X2 tyX2 tyX2_ok nmX2 0 (by decide) (List.mem_of_getElem? (i := 2) rfl) rfl rfl rfl (Nat.le_of_ble_eq_true rfl) hS hA125 dX2_restore_53 (fun H locs hO hz hk hS => ?_)
      have hH2 := hH2.kept (hk _ hH2.lt (fun e => absurd (hJ 126 125 (by decide) (by decide) e) (by decide)))
      have hQ : hQs D cI ad _ H := fun j hj => (hQ j hj).keep (A1 := fun q => q = ad 125) (fun q h z => hk q h z) (fun k k0 e => hd_ne hJ hj k0 (by decide) (by omega) e)
      have hP := hP.keep (A1 := fun q => q = ad 125) (fun q h z => hk q h z) (fun k k0 e => absurd (hJ k 125 (by omega) (by decide) e) (by omega))
      have hH1 := hO
      exact W.vret hx hb hr (fun tz ht hW => ⟨⟨(), rfl, trivial, by dsimp only; rw [ht]; exact ⟨hP, by have e : ((n - 1 : Nat) : Int) = (n : Int) - 1 := (by omega); rw [e]; exact hH1, hH2, hQ⟩⟩, hS.F ht⟩) hS.2.2 dX2_restore_56
  · refine lv_aload_n (pc := 7) hx hb dX2_restore_7 rfl (lv_at hl 0 rfl) ?_
    refine zr_get (pc := 8) S hK hH1 rfl i_X2 1 (by decide) (List.mem_of_getElem? (i := 1) rfl) rfl dX2_restore_8 ?_
    refine lv_iconst (pc := 11) (v := zI 1) hx hb dX2_restore_11 rfl ?_
    refine zr_isub (pc := 12) (d := (k : Int)) hx hb dX2_restore_12 (by omega) ?_
    refine lv_goto (pc := 13) (tgt := 17) hx hb dX2_restore_13 (by decide) ?_
    skip
    refine lv_istore_n (pc := 17) (lv' := [(2, .int (zI ((k : Int)))), (0, .ref (ad 125)), (1, .ref (ad 0))]) hx hb dX2_restore_17 rfl hl (by decide) rfl (fun ls hl => ?_)
    refine lv_aload_n (pc := 18) hx hb dX2_restore_18 rfl (lv_at hl 1 rfl) ?_
    refine lv_iload_n (pc := 19) hx hb dX2_restore_19 rfl (lv_at hl 0 rfl) ?_
    refine zr_vr (pc := 20) (As := [.int (zI ((k : Int)))]) (rest := []) S (ct_X2_stateAt l D cI cT ad n m k hk5 hJ) (cwV 1 hts gX2_restore_X2_stateAt rfl rfl rfl (by decide +kernel) ⟨Nat.le_of_ble_eq_true rfl, Nat.le_of_ble_eq_true rfl⟩) zs0 hK ⟨hH1, hH2⟩ (zr_recv hK hH1 rfl) rfl hl.1 rfl (Nat.le_of_ble_eq_true rfl) dX2_restore_20 ⟨Nat.le_of_ble_eq_true rfl, Nat.le_of_ble_eq_true rfl⟩ (fun k_20 hk_20 => ?_)
    subst hk_20
    refine lv_astore_n (pc := 23) (lv' := [(3, .ref (ad (20 * (k + 1)))), (2, .int (zI ((k : Int)))), (0, .ref (ad 125)), (1, .ref (ad 0))]) hx hb dX2_restore_23 rfl hl (by decide) rfl (fun ls hl => ?_)
    refine lv_aload_n (pc := 24) hx hb dX2_restore_24 rfl (lv_at hl 2 rfl) ?_
    refine zr_get (pc := 25) S hK hH1 rfl i_X2 0 (by decide) (List.mem_of_getElem? (i := 2) rfl) rfl dX2_restore_25 ?_
    refine zr_if_le (pc := 28) (tgt := 35) hx hb dX2_restore_28 (by decide) (by omega) (fun c_28 => ?_) (fun c_28 => ?_)
    · exact absurd c_28 (by omega)
    · refine lv_aload_n (pc := 31) hx hb dX2_restore_31 rfl (lv_at hl 0 rfl) ?_
      refine lv_ifnonnull (pc := 32) (tgt := 36) hx hb dX2_restore_32 (by decide) ?_
      refine lv_aload_n (pc := 36) hx hb dX2_restore_36 rfl (lv_at hl 3 rfl) ?_
      refine lv_aload_n (pc := 37) hx hb dX2_restore_37 rfl (lv_at hl 0 rfl) ?_
      refine zr_vwv (pc := 38) (As := [.ref (ad (20 * (k + 1)))]) (rest := []) S (ct_X4_become l D cI cT H.size ad (hd ad k) σ (σs k) (zJ_le hJ (by decide)) (fun i j hi hj e => hd_ne hJ hk5 hj (by omega) (by omega) e.symm)) (cwV 1 hts gX2_restore_X4_become rfl rfl rfl (by decide +kernel) ⟨Nat.le_of_ble_eq_true rfl, Nat.le_of_ble_eq_true rfl⟩) zs0 hK ⟨hP, hQ k hk5⟩ (zr_recv hK (hP 0 (by decide)) rfl) hS (fun q h => h.elim (fun ⟨k, k0, e⟩ => by rw [e]; exact hAc k k0) (fun z => hAn q (Nat.le_trans hS.1 z))) rfl hl.1 rfl (Nat.le_of_ble_eq_true rfl) dX2_restore_38 ⟨Nat.le_of_ble_eq_true rfl, Nat.le_of_ble_eq_true rfl⟩ (fun H locs hG hz hk hS => ?_)
      have hH1 := hH1.kept (hk _ hH1.lt (fun z => z.elim (fun ⟨i, i0, e⟩ => absurd (hJ 125 i (by decide) (by omega) e) (by omega)) (fun y => absurd hH1.lt (Nat.not_lt.mpr y))))
      have hH2 := hH2.kept (hk _ hH2.lt (fun z => z.elim (fun ⟨i, i0, e⟩ => absurd (hJ 126 i (by decide) (by omega) e) (by omega)) (fun y => absurd hH2.lt (Nat.not_lt.mpr y))))
      have hQ : hQs D cI ad σs H := fun j hj => (hQ j hj).keep hk (fun k k0 z => z.elim (fun ⟨i, i0, q⟩ => hd_ne hJ hj k0 (by omega) (by omega) q) (fun y => absurd ((hQ j hj).lt k0) (Nat.not_lt.mpr y)))
      have hP := hG
      refine lv_aload_n (pc := 41) hx hb dX2_restore_41 rfl (lv_at hl 2 rfl) ?_
      refine lv_iload_n (pc := 42) hx hb dX2_restore_42 rfl (lv_at hl 1 rfl) ?_
      refine zr_put (pc := 43) S hK hH1 rfl i_X2 tyX2 tyX2_ok nmX2 1 (by decide) (List.mem_of_getElem? (i := 1) rfl) rfl rfl rfl (Nat.le_of_ble_eq_true rfl) hS hA125 dX2_restore_43 (fun H locs hO hz hk hS => ?_)
      have hH2 := hH2.kept (hk _ hH2.lt (fun e => absurd (hJ 126 125 (by decide) (by decide) e) (by decide)))
      have hQ : hQs D cI ad _ H := fun j hj => (hQ j hj).keep (A1 := fun q => q = ad 125) (fun q h z => hk q h z) (fun k k0 e => hd_ne hJ hj k0 (by decide) (by omega) e)
      have hP := hP.keep (A1 := fun q => q = ad 125) (fun q h z => hk q h z) (fun k k0 e => absurd (hJ k 125 (by omega) (by decide) e) (by omega))
      have hH1 := hO
      refine lv_aload_n (pc := 46) hx hb dX2_restore_46 rfl (lv_at hl 2 rfl) ?_
      refine lv_dup (pc := 47) hx hb dX2_restore_47 rfl ?_
      refine zr_get (pc := 48) S hK hH1 rfl i_X2 0 (by decide) (List.mem_of_getElem? (i := 2) rfl) rfl dX2_restore_48 ?_
      refine lv_iconst (pc := 51) (v := zI 1) hx hb dX2_restore_51 rfl ?_
      refine zr_isub (pc := 52) (d := ((n : Int)) - 1) hx hb dX2_restore_52 rfl ?_
      refine zr_put (pc := 53) S hK hH1 rfl i_X2 tyX2 tyX2_ok nmX2 0 (by decide) (List.mem_of_getElem? (i := 2) rfl) rfl rfl rfl (Nat.le_of_ble_eq_true rfl) hS hA125 dX2_restore_53 (fun H locs hO hz hk hS => ?_)
      have hH2 := hH2.kept (hk _ hH2.lt (fun e => absurd (hJ 126 125 (by decide) (by decide) e) (by decide)))
      have hQ : hQs D cI ad _ H := fun j hj => (hQ j hj).keep (A1 := fun q => q = ad 125) (fun q h z => hk q h z) (fun k k0 e => hd_ne hJ hj k0 (by decide) (by omega) e)
      have hP := hP.keep (A1 := fun q => q = ad 125) (fun q h z => hk q h z) (fun k k0 e => absurd (hJ k 125 (by omega) (by decide) e) (by omega))
      have hH1 := hO
      exact W.vret hx hb hr (fun tz ht hW => ⟨⟨(), rfl, trivial, by dsimp only; rw [ht]; exact ⟨hP, by have e : ((n - 1 : Nat) : Int) = (n : Int) - 1 := (by omega); rw [e]; exact hH1, hH2, hQ⟩⟩, hS.F ht⟩) hS.2.2 dX2_restore_56
