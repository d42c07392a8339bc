/-! the law's cases, 9 to 17 -/
set_option maxHeartbeats 4000000 in
theorem lwc_9 {p : Program} {l : Launch} {e : Env} {s : State} {m : MethodId} {below : List Frame} {meth : Method} {c : Code} {H : Heap} {locs : List Loc} {ls : Array Slot} {Q : State → Prop} {D : va_G} {cI cT : ClassId} {b L : Nat} {xs : Nat → Int32} {ad am : Nat → Nat} {i : Int}
    (S : CallFix p m c cL_law 4 s #[Value.ref b] wsL_law RL) (hK : zK D cI cT s) (hX : va_X b L xs s s.heap) (hbl : b < s.heap.size) (hL : (L : Int) ≤ 3072) (hG : LG ad am s.heap.size) (hLI : LI D cI cT ad am s.heap.size s H) (hS : va_S (fun q => s.heap.size ≤ q) s.heap H locs)
    (hl : lv_has ls 4 [(3, .int (zI i)), (2, .ref (am 0)), (1, .ref (ad 120)), (0, .ref b)]) (i0 : 0 ≤ i) (i1 : i + 6 ≤ (L : Int))
    (next : ∀ (H1 : Heap) (locs1 : List Loc) (ls1 : Array Slot), LI D cI cT ad am s.heap.size s H1 → va_S (fun q => s.heap.size ≤ q) s.heap H1 locs1 → lv_has ls1 4 [(3, .int (zI i)), (2, .ref (am 0)), (1, .ref (ad 120)), (0, .ref b)] → W p l e room_1 s m #[Value.ref b] below meth c H1 locs1 132 7992 Q (F0 m 997 ls1 [])) :
    W p l e room_1 s m #[Value.ref b] below meth c H locs 132 7992 Q (F0 m 443 ls []) := by
  have hx := S.1
  have hb := S.2.1
  have hts := S.2.2.2.2
  obtain ⟨g, n, hs, tl, tx, hgO, ⟨σ, σs, m0, rd, rp, hR, hC, hn, hm, hP, hH1, hH2, hQ, hY⟩, ⟨μ, hM, hPm⟩, hLX⟩ := hLI
  have hI := hgO.1
  obtain ⟨t0, t1, htx⟩ := hgO.2.2
  refine lv_aload_n (pc := 443) hx hb dL_law_443 rfl (lv_at hl 2 rfl) ?_
  refine lv_aload_n (pc := 444) hx hb dL_law_444 rfl (lv_at hl 3 rfl) ?_
  refine lv_iload_n (pc := 445) hx hb dL_law_445 rfl (lv_at hl 0 rfl) ?_
  refine lv_iconst (pc := 446) (v := zI 1) hx hb dL_law_446 rfl ?_
  refine zr_iadd (pc := 447) (d := i + 1) hx hb dL_law_447 rfl ?_
  refine zr_sld (pc := 448) hx hb hX hbl (Nat.not_le.mpr hbl) hS (by omega) (by omega) (by omega) dL_law_448 ?_
  refine lv_aload_n (pc := 449) hx hb dL_law_449 rfl (lv_at hl 3 rfl) ?_
  refine lv_iload_n (pc := 450) hx hb dL_law_450 rfl (lv_at hl 0 rfl) ?_
  refine lv_iconst (pc := 451) (v := zI 2) hx hb dL_law_451 rfl ?_
  refine zr_iadd (pc := 452) (d := i + 2) hx hb dL_law_452 rfl ?_
  refine zr_sld (pc := 453) hx hb hX hbl (Nat.not_le.mpr hbl) hS (by omega) (by omega) (by omega) dL_law_453 ?_
  refine lv_aload_n (pc := 454) hx hb dL_law_454 rfl (lv_at hl 3 rfl) ?_
  refine lv_iload_n (pc := 455) hx hb dL_law_455 rfl (lv_at hl 0 rfl) ?_
  refine lv_iconst (pc := 456) (v := zI 3) hx hb dL_law_456 rfl ?_
  refine zr_iadd (pc := 457) (d := i + 3) hx hb dL_law_457 rfl ?_
  refine zr_sld (pc := 458) hx hb hX hbl (Nat.not_le.mpr hbl) hS (by omega) (by omega) (by omega) dL_law_458 ?_
  refine zr_vwi (pc := 459) (As := [.int (zI (xv xs (i + 1))), .int (zI (xv xs (i + 2))), .int (zI (xv xs (i + 3)))]) (rest := []) S (ct_X7_wear l D cI cT H.size ad σ g hR hI σs n m0 hs tl tx rd rp hn hm hC hG.1 (xv xs (i + 1)) (xv xs (i + 2)) (xv xs (i + 3)) (xv_r xs (i + 1)) (xv_r xs (i + 2)) (xv_r xs (i + 3))) (cwV 3 hts gL_law_X7_wear rfl rfl rfl (by decide +kernel) ⟨Nat.le_of_ble_eq_true rfl, Nat.le_of_ble_eq_true rfl⟩) zs0 hK ⟨hP, hH1, hH2, hQ, hY⟩ (zr_recv hK hY.1 rfl) hS (fun q h => h.elim (fun ⟨k, k0, e⟩ => by rw [e]; exact hG.2.2.2.1 k k0) (fun z => Nat.le_trans hS.1 z)) rfl hl.1 rfl (Nat.le_of_ble_eq_true rfl) dL_law_459 ⟨Nat.le_of_ble_eq_true rfl, Nat.le_of_ble_eq_true rfl⟩ (fun r7 H1 locs1 hG7 hz1 hk1 hS1 => ?_)
  obtain ⟨σ', σs', g', n', m', hs', ⟨hR', hC', hn', hm'⟩, ho7, hP', hH1', hH2', hQ', hY'⟩ := hG7
  have hPm1 := mW_keep hPm hG hk1
  have hLX1 := LX_k7 hLX hG hk1
  refine lv_aload_n (pc := 462) hx hb dL_law_462 rfl (lv_at hl 1 rfl) ?_
  refine lv_aload_n (pc := 463) hx hb dL_law_463 rfl (lv_at hl 3 rfl) ?_
  refine lv_iload_n (pc := 464) hx hb dL_law_464 rfl (lv_at hl 0 rfl) ?_
  refine lv_iconst (pc := 465) (v := zI 1) hx hb dL_law_465 rfl ?_
  refine zr_iadd (pc := 466) (d := i + 1) hx hb dL_law_466 rfl ?_
  refine zr_sld (pc := 467) hx hb hX hbl (Nat.not_le.mpr hbl) hS1 (by omega) (by omega) (by omega) dL_law_467 ?_
  refine lv_aload_n (pc := 468) hx hb dL_law_468 rfl (lv_at hl 3 rfl) ?_
  refine lv_iload_n (pc := 469) hx hb dL_law_469 rfl (lv_at hl 0 rfl) ?_
  refine lv_iconst (pc := 470) (v := zI 2) hx hb dL_law_470 rfl ?_
  refine zr_iadd (pc := 471) (d := i + 2) hx hb dL_law_471 rfl ?_
  refine zr_sld (pc := 472) hx hb hX hbl (Nat.not_le.mpr hbl) hS1 (by omega) (by omega) (by omega) dL_law_472 ?_
  refine lv_aload_n (pc := 473) hx hb dL_law_473 rfl (lv_at hl 3 rfl) ?_
  refine lv_iload_n (pc := 474) hx hb dL_law_474 rfl (lv_at hl 0 rfl) ?_
  refine lv_iconst (pc := 475) (v := zI 3) hx hb dL_law_475 rfl ?_
  refine zr_iadd (pc := 476) (d := i + 3) hx hb dL_law_476 rfl ?_
  refine zr_sld (pc := 477) hx hb hX hbl (Nat.not_le.mpr hbl) hS1 (by omega) (by omega) (by omega) dL_law_477 ?_
  refine zr_vwi (pc := 478) (As := [.int (zI (xv xs (i + 1))), .int (zI (xv xs (i + 2))), .int (zI (xv xs (i + 3)))]) (rest := [.int r7]) S (ct_X8_wear l D cI cT H1.size am μ g n hs tl tx hM hI hG.2.1 (xv xs (i + 1)) (xv xs (i + 2)) (xv xs (i + 3)) (xv_r xs (i + 1)) (xv_r xs (i + 2)) (xv_r xs (i + 3))) (cwV 3 hts gL_law_X8_wear rfl rfl rfl (by decide +kernel) ⟨Nat.le_of_ble_eq_true rfl, Nat.le_of_ble_eq_true rfl⟩) zs0 hK hPm1 (zr_recv hK (hPm1 0 (by decide)) rfl) hS1 (fun q h => h.elim (fun ⟨k, k0, e⟩ => by rw [e]; exact hG.2.2.2.2 k k0) (fun z => Nat.le_trans hS1.1 z)) rfl hl.1 rfl (Nat.le_of_ble_eq_true rfl) dL_law_478 ⟨Nat.le_of_ble_eq_true rfl, Nat.le_of_ble_eq_true rfl⟩ (fun r8 H2 locs2 hG8 hz2 hk2 hS2 => ?_)
  obtain ⟨μ', g2, n2, hs2, hM', ho8, hPm'⟩ := hG8
  obtain ⟨er, eg, en, eh⟩ := oR_u ho8 ho7
  subst er eg en eh
  have hgO2 := gOK_act ho8 hgO (fun z => ok_wear hI z)
  refine lv_icmp_eq (pc := 481) (tgt := 997) hx hb dL_law_481 (by decide) (fun _ => ?_) (fun z => absurd rfl z)
  exact next H2 locs2 ls ⟨_, _, _, _, _, hgO2, ⟨σ', σs', m', rd, rp, hR', hC', hn', hm', cW_keep ⟨hP', hH1', hH2', hQ', hY'⟩ hG hk2⟩, ⟨μ', hM', hPm'⟩, LX_k8 hLX1 hG hk2⟩ hS2 hl
set_option maxHeartbeats 4000000 in
theorem lwc_10 {p : Program} {l : Launch} {e : Env} {s : State} {m : MethodId} {below : List Frame} {meth : Method} {c : Code} {H : Heap} {locs : List Loc} {ls : Array Slot} {Q : State → Prop} {D : va_G} {cI cT : ClassId} {b L : Nat} {xs : Nat → Int32} {ad am : Nat → Nat} {i : Int}
    (S : CallFix p m c cL_law 4 s #[Value.ref b] wsL_law RL) (hK : zK D cI cT s) (hX : va_X b L xs s s.heap) (hbl : b < s.heap.size) (hL : (L : Int) ≤ 3072) (hG : LG ad am s.heap.size) (hLI : LI D cI cT ad am s.heap.size s H) (hS : va_S (fun q => s.heap.size ≤ q) s.heap H locs)
    (hl : lv_has ls 4 [(3, .int (zI i)), (2, .ref (am 0)), (1, .ref (ad 120)), (0, .ref b)]) (i0 : 0 ≤ i) (i1 : i + 6 ≤ (L : Int))
    (next : ∀ (H1 : Heap) (locs1 : List Loc) (ls1 : Array Slot), LI D cI cT ad am s.heap.size s H1 → va_S (fun q => s.heap.size ≤ q) s.heap H1 locs1 → lv_has ls1 4 [(3, .int (zI i)), (2, .ref (am 0)), (1, .ref (ad 120)), (0, .ref b)] → W p l e room_1 s m #[Value.ref b] below meth c H1 locs1 132 7992 Q (F0 m 997 ls1 [])) :
    W p l e room_1 s m #[Value.ref b] below meth c H locs 132 7992 Q (F0 m 486 ls []) := by
  have hx := S.1
  have hb := S.2.1
  have hts := S.2.2.2.2
  obtain ⟨g, n, hs, tl, tx, hgO, ⟨σ, σs, m0, rd, rp, hR, hC, hn, hm, hP, hH1, hH2, hQ, hY⟩, ⟨μ, hM, hPm⟩, hLX⟩ := hLI
  have hI := hgO.1
  obtain ⟨t0, t1, htx⟩ := hgO.2.2
  refine lv_aload_n (pc := 486) hx hb dL_law_486 rfl (lv_at hl 2 rfl) ?_
  refine zr_vwi (pc := 487) (As := []) (rest := []) S (ct_X7_perform l D cI cT H.size ad σ g hR hI σs n m0 hs tl tx rd rp hn hm hC hG.1  ) (cwV 0 hts gL_law_X7_perform rfl rfl rfl (by decide +kernel) ⟨Nat.le_of_ble_eq_true rfl, Nat.le_of_ble_eq_true rfl⟩) zs0 hK ⟨hP, hH1, hH2, hQ, hY⟩ (zr_recv hK hY.1 rfl) hS (fun q h => h.elim (fun ⟨k, k0, e⟩ => by rw [e]; exact hG.2.2.2.1 k k0) (fun z => Nat.le_trans hS.1 z)) rfl hl.1 rfl (Nat.le_of_ble_eq_true rfl) dL_law_487 ⟨Nat.le_of_ble_eq_true rfl, Nat.le_of_ble_eq_true rfl⟩ (fun r7 H1 locs1 hG7 hz1 hk1 hS1 => ?_)
  obtain ⟨σ', σs', g', n', m', hs', ⟨hR', hC', hn', hm'⟩, ho7, hP', hH1', hH2', hQ', hY'⟩ := hG7
  have hPm1 := mW_keep hPm hG hk1
  have hLX1 := LX_k7 hLX hG hk1
  refine lv_aload_n (pc := 490) hx hb dL_law_490 rfl (lv_at hl 1 rfl) ?_
  refine zr_vwi (pc := 491) (As := []) (rest := [.int r7]) S (ct_X8_perform l D cI cT H1.size am μ g n hs tl tx hM hI hG.2.1  ) (cwV 0 hts gL_law_X8_perform rfl rfl rfl (by decide +kernel) ⟨Nat.le_of_ble_eq_true rfl, Nat.le_of_ble_eq_true rfl⟩) zs0 hK hPm1 (zr_recv hK (hPm1 0 (by decide)) rfl) hS1 (fun q h => h.elim (fun ⟨k, k0, e⟩ => by rw [e]; exact hG.2.2.2.2 k k0) (fun z => Nat.le_trans hS1.1 z)) rfl hl.1 rfl (Nat.le_of_ble_eq_true rfl) dL_law_491 ⟨Nat.le_of_ble_eq_true rfl, Nat.le_of_ble_eq_true rfl⟩ (fun r8 H2 locs2 hG8 hz2 hk2 hS2 => ?_)
  obtain ⟨μ', g2, n2, hs2, hM', ho8, hPm'⟩ := hG8
  obtain ⟨er, eg, en, eh⟩ := oR_u ho8 ho7
  subst er eg en eh
  have hgO2 := gOK_act ho8 hgO (fun z => ok_perf hI z)
  refine lv_icmp_eq (pc := 494) (tgt := 997) hx hb dL_law_494 (by decide) (fun _ => ?_) (fun z => absurd rfl z)
  exact next H2 locs2 ls ⟨_, _, _, _, _, hgO2, ⟨σ', σs', m', rd, rp, hR', hC', hn', hm', cW_keep ⟨hP', hH1', hH2', hQ', hY'⟩ hG hk2⟩, ⟨μ', hM', hPm'⟩, LX_k8 hLX1 hG hk2⟩ hS2 hl
set_option maxHeartbeats 4000000 in
theorem lwc_11 {p : Program} {l : Launch} {e : Env} {s : State} {m : MethodId} {below : List Frame} {meth : Method} {c : Code} {H : Heap} {locs : List Loc} {ls : Array Slot} {Q : State → Prop} {D : va_G} {cI cT : ClassId} {b L : Nat} {xs : Nat → Int32} {ad am : Nat → Nat} {i : Int}
    (S : CallFix p m c cL_law 4 s #[Value.ref b] wsL_law RL) (hK : zK D cI cT s) (hX : va_X b L xs s s.heap) (hbl : b < s.heap.size) (hL : (L : Int) ≤ 3072) (hG : LG ad am s.heap.size) (hLI : LI D cI cT ad am s.heap.size s H) (hS : va_S (fun q => s.heap.size ≤ q) s.heap H locs)
    (hl : lv_has ls 4 [(3, .int (zI i)), (2, .ref (am 0)), (1, .ref (ad 120)), (0, .ref b)]) (i0 : 0 ≤ i) (i1 : i + 6 ≤ (L : Int))
    (next : ∀ (H1 : Heap) (locs1 : List Loc) (ls1 : Array Slot), LI D cI cT ad am s.heap.size s H1 → va_S (fun q => s.heap.size ≤ q) s.heap H1 locs1 → lv_has ls1 4 [(3, .int (zI i)), (2, .ref (am 0)), (1, .ref (ad 120)), (0, .ref b)] → W p l e room_1 s m #[Value.ref b] below meth c H1 locs1 132 7992 Q (F0 m 997 ls1 [])) :
    W p l e room_1 s m #[Value.ref b] below meth c H locs 132 7992 Q (F0 m 499 ls []) := by
  have hx := S.1
  have hb := S.2.1
  have hts := S.2.2.2.2
  obtain ⟨g, n, hs, tl, tx, hgO, ⟨σ, σs, m0, rd, rp, hR, hC, hn, hm, hP, hH1, hH2, hQ, hY⟩, ⟨μ, hM, hPm⟩, hLX⟩ := hLI
  have hI := hgO.1
  obtain ⟨t0, t1, htx⟩ := hgO.2.2
  refine lv_aload_n (pc := 499) hx hb dL_law_499 rfl (lv_at hl 2 rfl) ?_
  refine lv_aload_n (pc := 500) hx hb dL_law_500 rfl (lv_at hl 3 rfl) ?_
  refine lv_iload_n (pc := 501) hx hb dL_law_501 rfl (lv_at hl 0 rfl) ?_
  refine lv_iconst (pc := 502) (v := zI 1) hx hb dL_law_502 rfl ?_
  refine zr_iadd (pc := 503) (d := i + 1) hx hb dL_law_503 rfl ?_
  refine zr_sld (pc := 504) hx hb hX hbl (Nat.not_le.mpr hbl) hS (by omega) (by omega) (by omega) dL_law_504 ?_
  refine zr_vwi (pc := 505) (As := [.int (zI (xv xs (i + 1)))]) (rest := []) S (ct_X7_pass l D cI cT H.size ad σ g hR hI σs n m0 hs tl tx rd rp hn hm hC hG.1 (xv xs (i + 1)) (xv_r xs (i + 1))) (cwV 1 hts gL_law_X7_pass rfl rfl rfl (by decide +kernel) ⟨Nat.le_of_ble_eq_true rfl, Nat.le_of_ble_eq_true rfl⟩) zs0 hK ⟨hP, hH1, hH2, hQ, hY⟩ (zr_recv hK hY.1 rfl) hS (fun q h => h.elim (fun ⟨k, k0, e⟩ => by rw [e]; exact hG.2.2.2.1 k k0) (fun z => Nat.le_trans hS.1 z)) rfl hl.1 rfl (Nat.le_of_ble_eq_true rfl) dL_law_505 ⟨Nat.le_of_ble_eq_true rfl, Nat.le_of_ble_eq_true rfl⟩ (fun r7 H1 locs1 hG7 hz1 hk1 hS1 => ?_)
  obtain ⟨σ', σs', g', n', m', hs', ⟨hR', hC', hn', hm'⟩, ho7, hP', hH1', hH2', hQ', hY'⟩ := hG7
  have hPm1 := mW_keep hPm hG hk1
  have hLX1 := LX_k7 hLX hG hk1
  refine lv_aload_n (pc := 508) hx hb dL_law_508 rfl (lv_at hl 1 rfl) ?_
  refine lv_aload_n (pc := 509) hx hb dL_law_509 rfl (lv_at hl 3 rfl) ?_
  refine lv_iload_n (pc := 510) hx hb dL_law_510 rfl (lv_at hl 0 rfl) ?_
  refine lv_iconst (pc := 511) (v := zI 1) hx hb dL_law_511 rfl ?_
  refine zr_iadd (pc := 512) (d := i + 1) hx hb dL_law_512 rfl ?_
  refine zr_sld (pc := 513) hx hb hX hbl (Nat.not_le.mpr hbl) hS1 (by omega) (by omega) (by omega) dL_law_513 ?_
  refine zr_vwi (pc := 514) (As := [.int (zI (xv xs (i + 1)))]) (rest := [.int r7]) S (ct_X8_pass l D cI cT H1.size am μ g n hs tl tx hM hI hG.2.1 (xv xs (i + 1)) (xv_r xs (i + 1))) (cwV 1 hts gL_law_X8_pass rfl rfl rfl (by decide +kernel) ⟨Nat.le_of_ble_eq_true rfl, Nat.le_of_ble_eq_true rfl⟩) zs0 hK hPm1 (zr_recv hK (hPm1 0 (by decide)) rfl) hS1 (fun q h => h.elim (fun ⟨k, k0, e⟩ => by rw [e]; exact hG.2.2.2.2 k k0) (fun z => Nat.le_trans hS1.1 z)) rfl hl.1 rfl (Nat.le_of_ble_eq_true rfl) dL_law_514 ⟨Nat.le_of_ble_eq_true rfl, Nat.le_of_ble_eq_true rfl⟩ (fun r8 H2 locs2 hG8 hz2 hk2 hS2 => ?_)
  obtain ⟨μ', g2, n2, hs2, hM', ho8, hPm'⟩ := hG8
  obtain ⟨er, eg, en, eh⟩ := oR_u ho8 ho7
  subst er eg en eh
  have hgO2 := gOK_act ho8 hgO (fun z => ok_pass hI z)
  refine lv_icmp_eq (pc := 517) (tgt := 997) hx hb dL_law_517 (by decide) (fun _ => ?_) (fun z => absurd rfl z)
  exact next H2 locs2 ls ⟨_, _, _, _, _, hgO2, ⟨σ', σs', m', rd, rp, hR', hC', hn', hm', cW_keep ⟨hP', hH1', hH2', hQ', hY'⟩ hG hk2⟩, ⟨μ', hM', hPm'⟩, LX_k8 hLX1 hG hk2⟩ hS2 hl
set_option maxHeartbeats 4000000 in
theorem lwc_12 {p : Program} {l : Launch} {e : Env} {s : State} {m : MethodId} {below : List Frame} {meth : Method} {c : Code} {H : Heap} {locs : List Loc} {ls : Array Slot} {Q : State → Prop} {D : va_G} {cI cT : ClassId} {b L : Nat} {xs : Nat → Int32} {ad am : Nat → Nat} {i : Int}
    (S : CallFix p m c cL_law 4 s #[Value.ref b] wsL_law RL) (hK : zK D cI cT s) (hX : va_X b L xs s s.heap) (hbl : b < s.heap.size) (hL : (L : Int) ≤ 3072) (hG : LG ad am s.heap.size) (hLI : LI D cI cT ad am s.heap.size s H) (hS : va_S (fun q => s.heap.size ≤ q) s.heap H locs)
    (hl : lv_has ls 4 [(3, .int (zI i)), (2, .ref (am 0)), (1, .ref (ad 120)), (0, .ref b)]) (i0 : 0 ≤ i) (i1 : i + 6 ≤ (L : Int))
    (next : ∀ (H1 : Heap) (locs1 : List Loc) (ls1 : Array Slot), LI D cI cT ad am s.heap.size s H1 → va_S (fun q => s.heap.size ≤ q) s.heap H1 locs1 → lv_has ls1 4 [(3, .int (zI i)), (2, .ref (am 0)), (1, .ref (ad 120)), (0, .ref b)] → W p l e room_1 s m #[Value.ref b] below meth c H1 locs1 132 7992 Q (F0 m 997 ls1 [])) :
    W p l e room_1 s m #[Value.ref b] below meth c H locs 132 7992 Q (F0 m 522 ls []) := by
  have hx := S.1
  have hb := S.2.1
  have hts := S.2.2.2.2
  obtain ⟨g, n, hs, tl, tx, hgO, ⟨σ, σs, m0, rd, rp, hR, hC, hn, hm, hP, hH1, hH2, hQ, hY⟩, ⟨μ, hM, hPm⟩, hLX⟩ := hLI
  have hI := hgO.1
  obtain ⟨t0, t1, htx⟩ := hgO.2.2
  refine lv_aload_n (pc := 522) hx hb dL_law_522 rfl (lv_at hl 2 rfl) ?_
  refine lv_aload_n (pc := 523) hx hb dL_law_523 rfl (lv_at hl 3 rfl) ?_
  refine lv_iload_n (pc := 524) hx hb dL_law_524 rfl (lv_at hl 0 rfl) ?_
  refine lv_iconst (pc := 525) (v := zI 1) hx hb dL_law_525 rfl ?_
  refine zr_iadd (pc := 526) (d := i + 1) hx hb dL_law_526 rfl ?_
  refine zr_sld (pc := 527) hx hb hX hbl (Nat.not_le.mpr hbl) hS (by omega) (by omega) (by omega) dL_law_527 ?_
  refine lv_aload_n (pc := 528) hx hb dL_law_528 rfl (lv_at hl 3 rfl) ?_
  refine lv_iload_n (pc := 529) hx hb dL_law_529 rfl (lv_at hl 0 rfl) ?_
  refine lv_iconst (pc := 530) (v := zI 2) hx hb dL_law_530 rfl ?_
  refine zr_iadd (pc := 531) (d := i + 2) hx hb dL_law_531 rfl ?_
  refine zr_sld (pc := 532) hx hb hX hbl (Nat.not_le.mpr hbl) hS (by omega) (by omega) (by omega) dL_law_532 ?_
  refine lv_aload_n (pc := 533) hx hb dL_law_533 rfl (lv_at hl 3 rfl) ?_
  refine lv_iload_n (pc := 534) hx hb dL_law_534 rfl (lv_at hl 0 rfl) ?_
  refine lv_iconst (pc := 535) (v := zI 3) hx hb dL_law_535 rfl ?_
  refine zr_iadd (pc := 536) (d := i + 3) hx hb dL_law_536 rfl ?_
  refine zr_sld (pc := 537) hx hb hX hbl (Nat.not_le.mpr hbl) hS (by omega) (by omega) (by omega) dL_law_537 ?_
  refine lv_aload_n (pc := 538) hx hb dL_law_538 rfl (lv_at hl 3 rfl) ?_
  refine lv_iload_n (pc := 539) hx hb dL_law_539 rfl (lv_at hl 0 rfl) ?_
  refine lv_iconst (pc := 540) (v := zI 4) hx hb dL_law_540 rfl ?_
  refine zr_iadd (pc := 541) (d := i + 4) hx hb dL_law_541 rfl ?_
  refine zr_sld (pc := 542) hx hb hX hbl (Nat.not_le.mpr hbl) hS (by omega) (by omega) (by omega) dL_law_542 ?_
  refine zr_vwi (pc := 543) (As := [.int (zI (xv xs (i + 1))), .int (zI (xv xs (i + 2))), .int (zI (xv xs (i + 3))), .int (zI (xv xs (i + 4)))]) (rest := []) S (ct_X7_hire l D cI cT H.size ad σ g hR hI σs n m0 hs tl tx rd rp hn hm hC hG.1 (xv xs (i + 1)) (xv xs (i + 2)) (xv xs (i + 3)) (xv xs (i + 4)) (xv_r xs (i + 1)) (xv_r xs (i + 2)) (xv_r xs (i + 3)) (xv_r xs (i + 4))) (cwV 4 hts gL_law_X7_hire rfl rfl rfl (by decide +kernel) ⟨Nat.le_of_ble_eq_true rfl, Nat.le_of_ble_eq_true rfl⟩) zs0 hK ⟨hP, hH1, hH2, hQ, hY⟩ (zr_recv hK hY.1 rfl) hS (fun q h => h.elim (fun ⟨k, k0, e⟩ => by rw [e]; exact hG.2.2.2.1 k k0) (fun z => Nat.le_trans hS.1 z)) rfl hl.1 rfl (Nat.le_of_ble_eq_true rfl) dL_law_543 ⟨Nat.le_of_ble_eq_true rfl, Nat.le_of_ble_eq_true rfl⟩ (fun r7 H1 locs1 hG7 hz1 hk1 hS1 => ?_)
  obtain ⟨σ', σs', g', n', m', hs', ⟨hR', hC', hn', hm'⟩, ho7, hP', hH1', hH2', hQ', hY'⟩ := hG7
  have hPm1 := mW_keep hPm hG hk1
  have hLX1 := LX_k7 hLX hG hk1
  refine lv_aload_n (pc := 546) hx hb dL_law_546 rfl (lv_at hl 1 rfl) ?_
  refine lv_aload_n (pc := 547) hx hb dL_law_547 rfl (lv_at hl 3 rfl) ?_
  refine lv_iload_n (pc := 548) hx hb dL_law_548 rfl (lv_at hl 0 rfl) ?_
  refine lv_iconst (pc := 549) (v := zI 1) hx hb dL_law_549 rfl ?_
  refine zr_iadd (pc := 550) (d := i + 1) hx hb dL_law_550 rfl ?_
  refine zr_sld (pc := 551) hx hb hX hbl (Nat.not_le.mpr hbl) hS1 (by omega) (by omega) (by omega) dL_law_551 ?_
  refine lv_aload_n (pc := 552) hx hb dL_law_552 rfl (lv_at hl 3 rfl) ?_
  refine lv_iload_n (pc := 553) hx hb dL_law_553 rfl (lv_at hl 0 rfl) ?_
  refine lv_iconst (pc := 554) (v := zI 2) hx hb dL_law_554 rfl ?_
  refine zr_iadd (pc := 555) (d := i + 2) hx hb dL_law_555 rfl ?_
  refine zr_sld (pc := 556) hx hb hX hbl (Nat.not_le.mpr hbl) hS1 (by omega) (by omega) (by omega) dL_law_556 ?_
  refine lv_aload_n (pc := 557) hx hb dL_law_557 rfl (lv_at hl 3 rfl) ?_
  refine lv_iload_n (pc := 558) hx hb dL_law_558 rfl (lv_at hl 0 rfl) ?_
  refine lv_iconst (pc := 559) (v := zI 3) hx hb dL_law_559 rfl ?_
  refine zr_iadd (pc := 560) (d := i + 3) hx hb dL_law_560 rfl ?_
  refine zr_sld (pc := 561) hx hb hX hbl (Nat.not_le.mpr hbl) hS1 (by omega) (by omega) (by omega) dL_law_561 ?_
  refine lv_aload_n (pc := 562) hx hb dL_law_562 rfl (lv_at hl 3 rfl) ?_
  refine lv_iload_n (pc := 563) hx hb dL_law_563 rfl (lv_at hl 0 rfl) ?_
  refine lv_iconst (pc := 564) (v := zI 4) hx hb dL_law_564 rfl ?_
  refine zr_iadd (pc := 565) (d := i + 4) hx hb dL_law_565 rfl ?_
  refine zr_sld (pc := 566) hx hb hX hbl (Nat.not_le.mpr hbl) hS1 (by omega) (by omega) (by omega) dL_law_566 ?_
  refine zr_vwi (pc := 567) (As := [.int (zI (xv xs (i + 1))), .int (zI (xv xs (i + 2))), .int (zI (xv xs (i + 3))), .int (zI (xv xs (i + 4)))]) (rest := [.int r7]) S (ct_X8_hire l D cI cT H1.size am μ g n hs tl tx hM hI hG.2.1 (xv xs (i + 1)) (xv xs (i + 2)) (xv xs (i + 3)) (xv xs (i + 4)) (xv_r xs (i + 1)) (xv_r xs (i + 2)) (xv_r xs (i + 3)) (xv_r xs (i + 4))) (cwV 4 hts gL_law_X8_hire rfl rfl rfl (by decide +kernel) ⟨Nat.le_of_ble_eq_true rfl, Nat.le_of_ble_eq_true rfl⟩) zs0 hK hPm1 (zr_recv hK (hPm1 0 (by decide)) rfl) hS1 (fun q h => h.elim (fun ⟨k, k0, e⟩ => by rw [e]; exact hG.2.2.2.2 k k0) (fun z => Nat.le_trans hS1.1 z)) rfl hl.1 rfl (Nat.le_of_ble_eq_true rfl) dL_law_567 ⟨Nat.le_of_ble_eq_true rfl, Nat.le_of_ble_eq_true rfl⟩ (fun r8 H2 locs2 hG8 hz2 hk2 hS2 => ?_)
  obtain ⟨μ', g2, n2, hs2, hM', ho8, hPm'⟩ := hG8
  obtain ⟨er, eg, en, eh⟩ := oR_u ho8 ho7
  subst er eg en eh
  have hgO2 := gOK_act ho8 hgO (fun z => ok_hire hI z)
  refine lv_icmp_eq (pc := 570) (tgt := 997) hx hb dL_law_570 (by decide) (fun _ => ?_) (fun z => absurd rfl z)
  exact next H2 locs2 ls ⟨_, _, _, _, _, hgO2, ⟨σ', σs', m', rd, rp, hR', hC', hn', hm', cW_keep ⟨hP', hH1', hH2', hQ', hY'⟩ hG hk2⟩, ⟨μ', hM', hPm'⟩, LX_k8 hLX1 hG hk2⟩ hS2 hl
set_option maxHeartbeats 4000000 in
theorem lwc_13 {p : Program} {l : Launch} {e : Env} {s : State} {m : MethodId} {below : List Frame} {meth : Method} {c : Code} {H : Heap} {locs : List Loc} {ls : Array Slot} {Q : State → Prop} {D : va_G} {cI cT : ClassId} {b L : Nat} {xs : Nat → Int32} {ad am : Nat → Nat} {i : Int}
    (S : CallFix p m c cL_law 4 s #[Value.ref b] wsL_law RL) (hK : zK D cI cT s) (hX : va_X b L xs s s.heap) (hbl : b < s.heap.size) (hL : (L : Int) ≤ 3072) (hG : LG ad am s.heap.size) (hLI : LI D cI cT ad am s.heap.size s H) (hS : va_S (fun q => s.heap.size ≤ q) s.heap H locs)
    (hl : lv_has ls 4 [(3, .int (zI i)), (2, .ref (am 0)), (1, .ref (ad 120)), (0, .ref b)]) (i0 : 0 ≤ i) (i1 : i + 6 ≤ (L : Int))
    (next : ∀ (H1 : Heap) (locs1 : List Loc) (ls1 : Array Slot), LI D cI cT ad am s.heap.size s H1 → va_S (fun q => s.heap.size ≤ q) s.heap H1 locs1 → lv_has ls1 4 [(3, .int (zI i)), (2, .ref (am 0)), (1, .ref (ad 120)), (0, .ref b)] → W p l e room_1 s m #[Value.ref b] below meth c H1 locs1 132 7992 Q (F0 m 997 ls1 [])) :
    W p l e room_1 s m #[Value.ref b] below meth c H locs 132 7992 Q (F0 m 575 ls []) := by
  have hx := S.1
  have hb := S.2.1
  have hts := S.2.2.2.2
  obtain ⟨g, n, hs, tl, tx, hgO, ⟨σ, σs, m0, rd, rp, hR, hC, hn, hm, hP, hH1, hH2, hQ, hY⟩, ⟨μ, hM, hPm⟩, hLX⟩ := hLI
  have hI := hgO.1
  obtain ⟨t0, t1, htx⟩ := hgO.2.2
  refine lv_aload_n (pc := 575) hx hb dL_law_575 rfl (lv_at hl 2 rfl) ?_
  refine lv_aload_n (pc := 576) hx hb dL_law_576 rfl (lv_at hl 3 rfl) ?_
  refine lv_iload_n (pc := 577) hx hb dL_law_577 rfl (lv_at hl 0 rfl) ?_
  refine lv_iconst (pc := 578) (v := zI 1) hx hb dL_law_578 rfl ?_
  refine zr_iadd (pc := 579) (d := i + 1) hx hb dL_law_579 rfl ?_
  refine zr_sld (pc := 580) hx hb hX hbl (Nat.not_le.mpr hbl) hS (by omega) (by omega) (by omega) dL_law_580 ?_
  refine zr_vwi (pc := 581) (As := [.int (zI (xv xs (i + 1)))]) (rest := []) S (ct_X7_endHire l D cI cT H.size ad σ g hR hI σs n m0 hs tl tx rd rp hn hm hC hG.1 (xv xs (i + 1)) (xv_r xs (i + 1))) (cwV 1 hts gL_law_X7_endHire rfl rfl rfl (by decide +kernel) ⟨Nat.le_of_ble_eq_true rfl, Nat.le_of_ble_eq_true rfl⟩) zs0 hK ⟨hP, hH1, hH2, hQ, hY⟩ (zr_recv hK hY.1 rfl) hS (fun q h => h.elim (fun ⟨k, k0, e⟩ => by rw [e]; exact hG.2.2.2.1 k k0) (fun z => Nat.le_trans hS.1 z)) rfl hl.1 rfl (Nat.le_of_ble_eq_true rfl) dL_law_581 ⟨Nat.le_of_ble_eq_true rfl, Nat.le_of_ble_eq_true rfl⟩ (fun r7 H1 locs1 hG7 hz1 hk1 hS1 => ?_)
  obtain ⟨σ', σs', g', n', m', hs', ⟨hR', hC', hn', hm'⟩, ho7, hP', hH1', hH2', hQ', hY'⟩ := hG7
  have hPm1 := mW_keep hPm hG hk1
  have hLX1 := LX_k7 hLX hG hk1
  refine lv_aload_n (pc := 584) hx hb dL_law_584 rfl (lv_at hl 1 rfl) ?_
  refine lv_aload_n (pc := 585) hx hb dL_law_585 rfl (lv_at hl 3 rfl) ?_
  refine lv_iload_n (pc := 586) hx hb dL_law_586 rfl (lv_at hl 0 rfl) ?_
  refine lv_iconst (pc := 587) (v := zI 1) hx hb dL_law_587 rfl ?_
  refine zr_iadd (pc := 588) (d := i + 1) hx hb dL_law_588 rfl ?_
  refine zr_sld (pc := 589) hx hb hX hbl (Nat.not_le.mpr hbl) hS1 (by omega) (by omega) (by omega) dL_law_589 ?_
  refine zr_vwi (pc := 590) (As := [.int (zI (xv xs (i + 1)))]) (rest := [.int r7]) S (ct_X8_endHire l D cI cT H1.size am μ g n hs tl tx hM hI hG.2.1 (xv xs (i + 1)) (xv_r xs (i + 1))) (cwV 1 hts gL_law_X8_endHire rfl rfl rfl (by decide +kernel) ⟨Nat.le_of_ble_eq_true rfl, Nat.le_of_ble_eq_true rfl⟩) zs0 hK hPm1 (zr_recv hK (hPm1 0 (by decide)) rfl) hS1 (fun q h => h.elim (fun ⟨k, k0, e⟩ => by rw [e]; exact hG.2.2.2.2 k k0) (fun z => Nat.le_trans hS1.1 z)) rfl hl.1 rfl (Nat.le_of_ble_eq_true rfl) dL_law_590 ⟨Nat.le_of_ble_eq_true rfl, Nat.le_of_ble_eq_true rfl⟩ (fun r8 H2 locs2 hG8 hz2 hk2 hS2 => ?_)
  obtain ⟨μ', g2, n2, hs2, hM', ho8, hPm'⟩ := hG8
  obtain ⟨er, eg, en, eh⟩ := oR_u ho8 ho7
  subst er eg en eh
  have hgO2 := gOK_act ho8 hgO (fun z => ok_end hI z)
  refine lv_icmp_eq (pc := 593) (tgt := 997) hx hb dL_law_593 (by decide) (fun _ => ?_) (fun z => absurd rfl z)
  exact next H2 locs2 ls ⟨_, _, _, _, _, hgO2, ⟨σ', σs', m', rd, rp, hR', hC', hn', hm', cW_keep ⟨hP', hH1', hH2', hQ', hY'⟩ hG hk2⟩, ⟨μ', hM', hPm'⟩, LX_k8 hLX1 hG hk2⟩ hS2 hl
set_option maxHeartbeats 4000000 in
theorem lwc_14 {p : Program} {l : Launch} {e : Env} {s : State} {m : MethodId} {below : List Frame} {meth : Method} {c : Code} {H : Heap} {locs : List Loc} {ls : Array Slot} {Q : State → Prop} {D : va_G} {cI cT : ClassId} {b L : Nat} {xs : Nat → Int32} {ad am : Nat → Nat} {i : Int}
    (S : CallFix p m c cL_law 4 s #[Value.ref b] wsL_law RL) (hK : zK D cI cT s) (hX : va_X b L xs s s.heap) (hbl : b < s.heap.size) (hL : (L : Int) ≤ 3072) (hG : LG ad am s.heap.size) (hLI : LI D cI cT ad am s.heap.size s H) (hS : va_S (fun q => s.heap.size ≤ q) s.heap H locs)
    (hl : lv_has ls 4 [(3, .int (zI i)), (2, .ref (am 0)), (1, .ref (ad 120)), (0, .ref b)]) (i0 : 0 ≤ i) (i1 : i + 6 ≤ (L : Int))
    (next : ∀ (H1 : Heap) (locs1 : List Loc) (ls1 : Array Slot), LI D cI cT ad am s.heap.size s H1 → va_S (fun q => s.heap.size ≤ q) s.heap H1 locs1 → lv_has ls1 4 [(3, .int (zI i)), (2, .ref (am 0)), (1, .ref (ad 120)), (0, .ref b)] → W p l e room_1 s m #[Value.ref b] below meth c H1 locs1 132 7992 Q (F0 m 997 ls1 [])) :
    W p l e room_1 s m #[Value.ref b] below meth c H locs 132 7992 Q (F0 m 598 ls []) := by
  have hx := S.1
  have hb := S.2.1
  have hts := S.2.2.2.2
  obtain ⟨g, n, hs, tl, tx, hgO, ⟨σ, σs, m0, rd, rp, hR, hC, hn, hm, hP, hH1, hH2, hQ, hY⟩, ⟨μ, hM, hPm⟩, hLX⟩ := hLI
  have hI := hgO.1
  obtain ⟨t0, t1, htx⟩ := hgO.2.2
  refine lv_aload_n (pc := 598) hx hb dL_law_598 rfl (lv_at hl 2 rfl) ?_
  refine lv_aload_n (pc := 599) hx hb dL_law_599 rfl (lv_at hl 3 rfl) ?_
  refine lv_iload_n (pc := 600) hx hb dL_law_600 rfl (lv_at hl 0 rfl) ?_
  refine lv_iconst (pc := 601) (v := zI 1) hx hb dL_law_601 rfl ?_
  refine zr_iadd (pc := 602) (d := i + 1) hx hb dL_law_602 rfl ?_
  refine zr_sld (pc := 603) hx hb hX hbl (Nat.not_le.mpr hbl) hS (by omega) (by omega) (by omega) dL_law_603 ?_
  refine lv_aload_n (pc := 604) hx hb dL_law_604 rfl (lv_at hl 3 rfl) ?_
  refine lv_iload_n (pc := 605) hx hb dL_law_605 rfl (lv_at hl 0 rfl) ?_
  refine lv_iconst (pc := 606) (v := zI 2) hx hb dL_law_606 rfl ?_
  refine zr_iadd (pc := 607) (d := i + 2) hx hb dL_law_607 rfl ?_
  refine zr_sld (pc := 608) hx hb hX hbl (Nat.not_le.mpr hbl) hS (by omega) (by omega) (by omega) dL_law_608 ?_
  refine zr_vwi (pc := 609) (As := [.int (zI (xv xs (i + 1))), .int (zI (xv xs (i + 2)))]) (rest := []) S (ct_X7_wash l D cI cT H.size ad σ g hR hI σs n m0 hs tl tx rd rp hn hm hC hG.1 (xv xs (i + 1)) (xv xs (i + 2)) (xv_r xs (i + 1)) (xv_r xs (i + 2)) s.heap.size hG.2.2.2.1) (cwV 2 hts gL_law_X7_wash rfl rfl rfl (by decide +kernel) ⟨Nat.le_of_ble_eq_true rfl, Nat.le_of_ble_eq_true rfl⟩) zs_T hK ⟨⟨hP, hH1, hH2, hQ, hY⟩, hLX.1⟩ (zr_recv hK hY.1 rfl) hS (fun q h => h.elim (fun ⟨k, k0, e⟩ => by rw [e]; exact hG.2.2.2.1 k k0) (fun z => Nat.le_trans hS.1 z)) rfl hl.1 rfl (Nat.le_of_ble_eq_true rfl) dL_law_609 ⟨Nat.le_of_ble_eq_true rfl, Nat.le_of_ble_eq_true rfl⟩ (fun r7 H1 locs1 hG7 hz1 hk1 hS1 => ?_)
  obtain ⟨σ', σs', g', n', m', hs', ⟨hR', hC', hn', hm'⟩, ho7, hP', hH1', hH2', hQ', hY'⟩ := hG7
  have hPm1 := mW_keep hPm hG hk1
  have hLX1 := LX_k7 hLX hG hk1
  refine lv_aload_n (pc := 612) hx hb dL_law_612 rfl (lv_at hl 1 rfl) ?_
  refine lv_aload_n (pc := 613) hx hb dL_law_613 rfl (lv_at hl 3 rfl) ?_
  refine lv_iload_n (pc := 614) hx hb dL_law_614 rfl (lv_at hl 0 rfl) ?_
  refine lv_iconst (pc := 615) (v := zI 1) hx hb dL_law_615 rfl ?_
  refine zr_iadd (pc := 616) (d := i + 1) hx hb dL_law_616 rfl ?_
  refine zr_sld (pc := 617) hx hb hX hbl (Nat.not_le.mpr hbl) hS1 (by omega) (by omega) (by omega) dL_law_617 ?_
  refine lv_aload_n (pc := 618) hx hb dL_law_618 rfl (lv_at hl 3 rfl) ?_
  refine lv_iload_n (pc := 619) hx hb dL_law_619 rfl (lv_at hl 0 rfl) ?_
  refine lv_iconst (pc := 620) (v := zI 2) hx hb dL_law_620 rfl ?_
  refine zr_iadd (pc := 621) (d := i + 2) hx hb dL_law_621 rfl ?_
  refine zr_sld (pc := 622) hx hb hX hbl (Nat.not_le.mpr hbl) hS1 (by omega) (by omega) (by omega) dL_law_622 ?_
  refine zr_vwi (pc := 623) (As := [.int (zI (xv xs (i + 1))), .int (zI (xv xs (i + 2)))]) (rest := [.int r7]) S (ct_X8_wash l D cI cT H1.size am μ g n hs tl tx hM hI hG.2.1 (xv xs (i + 1)) (xv xs (i + 2)) (xv_r xs (i + 1)) (xv_r xs (i + 2))) (cwV 2 hts gL_law_X8_wash rfl rfl rfl (by decide +kernel) ⟨Nat.le_of_ble_eq_true rfl, Nat.le_of_ble_eq_true rfl⟩) zs0 hK hPm1 (zr_recv hK (hPm1 0 (by decide)) rfl) hS1 (fun q h => h.elim (fun ⟨k, k0, e⟩ => by rw [e]; exact hG.2.2.2.2 k k0) (fun z => Nat.le_trans hS1.1 z)) rfl hl.1 rfl (Nat.le_of_ble_eq_true rfl) dL_law_623 ⟨Nat.le_of_ble_eq_true rfl, Nat.le_of_ble_eq_true rfl⟩ (fun r8 H2 locs2 hG8 hz2 hk2 hS2 => ?_)
  obtain ⟨μ', g2, n2, hs2, hM', ho8, hPm'⟩ := hG8
  obtain ⟨er, eg, en, eh⟩ := oR_u ho8 ho7
  subst er eg en eh
  have hgO2 := gOK_act ho8 hgO (fun z => ok_wash hI z)
  refine lv_icmp_eq (pc := 626) (tgt := 997) hx hb dL_law_626 (by decide) (fun _ => ?_) (fun z => absurd rfl z)
  exact next H2 locs2 ls ⟨_, _, _, _, _, hgO2, ⟨σ', σs', m', rd, rp, hR', hC', hn', hm', cW_keep ⟨hP', hH1', hH2', hQ', hY'⟩ hG hk2⟩, ⟨μ', hM', hPm'⟩, LX_k8 hLX1 hG hk2⟩ hS2 hl
set_option maxHeartbeats 4000000 in
theorem lwc_15 {p : Program} {l : Launch} {e : Env} {s : State} {m : MethodId} {below : List Frame} {meth : Method} {c : Code} {H : Heap} {locs : List Loc} {ls : Array Slot} {Q : State → Prop} {D : va_G} {cI cT : ClassId} {b L : Nat} {xs : Nat → Int32} {ad am : Nat → Nat} {i : Int}
    (S : CallFix p m c cL_law 4 s #[Value.ref b] wsL_law RL) (hK : zK D cI cT s) (hX : va_X b L xs s s.heap) (hbl : b < s.heap.size) (hL : (L : Int) ≤ 3072) (hG : LG ad am s.heap.size) (hLI : LI D cI cT ad am s.heap.size s H) (hS : va_S (fun q => s.heap.size ≤ q) s.heap H locs)
    (hl : lv_has ls 4 [(3, .int (zI i)), (2, .ref (am 0)), (1, .ref (ad 120)), (0, .ref b)]) (i0 : 0 ≤ i) (i1 : i + 6 ≤ (L : Int))
    (next : ∀ (H1 : Heap) (locs1 : List Loc) (ls1 : Array Slot), LI D cI cT ad am s.heap.size s H1 → va_S (fun q => s.heap.size ≤ q) s.heap H1 locs1 → lv_has ls1 4 [(3, .int (zI i)), (2, .ref (am 0)), (1, .ref (ad 120)), (0, .ref b)] → W p l e room_1 s m #[Value.ref b] below meth c H1 locs1 132 7992 Q (F0 m 997 ls1 [])) :
    W p l e room_1 s m #[Value.ref b] below meth c H locs 132 7992 Q (F0 m 631 ls []) := by
  have hx := S.1
  have hb := S.2.1
  have hts := S.2.2.2.2
  obtain ⟨g, n, hs, tl, tx, hgO, ⟨σ, σs, m0, rd, rp, hR, hC, hn, hm, hP, hH1, hH2, hQ, hY⟩, ⟨μ, hM, hPm⟩, hLX⟩ := hLI
  have hI := hgO.1
  obtain ⟨t0, t1, htx⟩ := hgO.2.2
  refine lv_aload_n (pc := 631) hx hb dL_law_631 rfl (lv_at hl 2 rfl) ?_
  refine zr_vwi (pc := 632) (As := []) (rest := []) S (ct_X7_undo l D cI cT H.size ad σ g hR hI σs n m0 hs tl tx rd rp hn hm hC hG.1 hgO.2.1) (cwV 0 hts gL_law_X7_undo rfl rfl rfl (by decide +kernel) ⟨Nat.le_of_ble_eq_true rfl, Nat.le_of_ble_eq_true rfl⟩) zs0 hK ⟨hP, hH1, hH2, hQ, hY⟩ (zr_recv hK hY.1 rfl) hS (fun q h => h.elim (fun ⟨k, k0, e⟩ => by rw [e]; exact hG.2.2.2.1 k k0) (fun z => Nat.le_trans hS.1 z)) rfl hl.1 rfl (Nat.le_of_ble_eq_true rfl) dL_law_632 ⟨Nat.le_of_ble_eq_true rfl, Nat.le_of_ble_eq_true rfl⟩ (fun r7 H1 locs1 hG7 hz1 hk1 hS1 => ?_)
  obtain ⟨σ', g', n', m', hs', ⟨hR', hC', hn', hm'⟩, ho7, hP', hH1', hH2', hQ', hY'⟩ := hG7
  have hPm1 := mW_keep hPm hG hk1
  have hLX1 := LX_k7 hLX hG hk1
  refine lv_aload_n (pc := 635) hx hb dL_law_635 rfl (lv_at hl 1 rfl) ?_
  refine zr_vwi (pc := 636) (As := []) (rest := [.int r7]) S (ct_X8_undo l D cI cT H1.size am μ g n hs tl tx hM hI hG.2.1  ) (cwV 0 hts gL_law_X8_undo rfl rfl rfl (by decide +kernel) ⟨Nat.le_of_ble_eq_true rfl, Nat.le_of_ble_eq_true rfl⟩) zs0 hK hPm1 (zr_recv hK (hPm1 0 (by decide)) rfl) hS1 (fun q h => h.elim (fun ⟨k, k0, e⟩ => by rw [e]; exact hG.2.2.2.2 k k0) (fun z => Nat.le_trans hS1.1 z)) rfl hl.1 rfl (Nat.le_of_ble_eq_true rfl) dL_law_636 ⟨Nat.le_of_ble_eq_true rfl, Nat.le_of_ble_eq_true rfl⟩ (fun r8 H2 locs2 hG8 hz2 hk2 hS2 => ?_)
  obtain ⟨μ', g2, n2, hs2, hM', ho8, hPm'⟩ := hG8
  obtain ⟨er, eg, en, eh⟩ := oU_u ho8 ho7
  subst er eg en eh
  have hgO2 := gOK_undo ho8 hgO
  refine lv_icmp_eq (pc := 639) (tgt := 997) hx hb dL_law_639 (by decide) (fun _ => ?_) (fun z => absurd rfl z)
  exact next H2 locs2 ls ⟨_, _, _, _, _, hgO2, ⟨σ', σs, m', rd, rp, hR', hC', hn', hm', cW_keep ⟨hP', hH1', hH2', hQ', hY'⟩ hG hk2⟩, ⟨μ', hM', hPm'⟩, LX_k8 hLX1 hG hk2⟩ hS2 hl
set_option maxHeartbeats 4000000 in
theorem lwc_16 {p : Program} {l : Launch} {e : Env} {s : State} {m : MethodId} {below : List Frame} {meth : Method} {c : Code} {H : Heap} {locs : List Loc} {ls : Array Slot} {Q : State → Prop} {D : va_G} {cI cT : ClassId} {b L : Nat} {xs : Nat → Int32} {ad am : Nat → Nat} {i : Int}
    (S : CallFix p m c cL_law 4 s #[Value.ref b] wsL_law RL) (hK : zK D cI cT s) (hX : va_X b L xs s s.heap) (hbl : b < s.heap.size) (hL : (L : Int) ≤ 3072) (hG : LG ad am s.heap.size) (hLI : LI D cI cT ad am s.heap.size s H) (hS : va_S (fun q => s.heap.size ≤ q) s.heap H locs)
    (hl : lv_has ls 4 [(3, .int (zI i)), (2, .ref (am 0)), (1, .ref (ad 120)), (0, .ref b)]) (i0 : 0 ≤ i) (i1 : i + 6 ≤ (L : Int))
    (next : ∀ (H1 : Heap) (locs1 : List Loc) (ls1 : Array Slot), LI D cI cT ad am s.heap.size s H1 → va_S (fun q => s.heap.size ≤ q) s.heap H1 locs1 → lv_has ls1 4 [(3, .int (zI i)), (2, .ref (am 0)), (1, .ref (ad 120)), (0, .ref b)] → W p l e room_1 s m #[Value.ref b] below meth c H1 locs1 132 7992 Q (F0 m 997 ls1 [])) :
    W p l e room_1 s m #[Value.ref b] below meth c H locs 132 7992 Q (F0 m 644 ls []) := by
  have hx := S.1
  have hb := S.2.1
  have hts := S.2.2.2.2
  obtain ⟨g, n, hs, tl, tx, hgO, ⟨σ, σs, m0, rd, rp, hR, hC, hn, hm, hP, hH1, hH2, hQ, hY⟩, ⟨μ, hM, hPm⟩, hLX⟩ := hLI
  have hI := hgO.1
  obtain ⟨t0, t1, htx⟩ := hgO.2.2
  refine lv_aload_n (pc := 644) hx hb dL_law_644 rfl (lv_at hl 2 rfl) ?_
  refine lv_aload_n (pc := 645) hx hb dL_law_645 rfl (lv_at hl 3 rfl) ?_
  refine lv_iload_n (pc := 646) hx hb dL_law_646 rfl (lv_at hl 0 rfl) ?_
  refine lv_iconst (pc := 647) (v := zI 1) hx hb dL_law_647 rfl ?_
  refine zr_iadd (pc := 648) (d := i + 1) hx hb dL_law_648 rfl ?_
  refine zr_sld (pc := 649) hx hb hX hbl (Nat.not_le.mpr hbl) hS (by omega) (by omega) (by omega) dL_law_649 ?_
  refine zr_vi (pc := 650) (As := [.int (zI (xv xs (i + 1)))]) (rest := []) S (ct_X7_count l D cI cT ad σ g hR hI (n : Int) (m0 : Int) tl tx rd rp (xv xs (i + 1)) (xv_r xs (i + 1))) (cwV 1 hts gL_law_X7_count rfl rfl rfl (by decide +kernel) ⟨Nat.le_of_ble_eq_true rfl, Nat.le_of_ble_eq_true rfl⟩) zs0 hK ⟨hP, hH1, hY⟩ (zr_recv hK hY.1 rfl) rfl hl.1 rfl (Nat.le_of_ble_eq_true rfl) dL_law_650 ⟨Nat.le_of_ble_eq_true rfl, Nat.le_of_ble_eq_true rfl⟩ (fun r7 e7 => ?_)
  subst e7
  refine lv_aload_n (pc := 653) hx hb dL_law_653 rfl (lv_at hl 1 rfl) ?_
  refine lv_aload_n (pc := 654) hx hb dL_law_654 rfl (lv_at hl 3 rfl) ?_
  refine lv_iload_n (pc := 655) hx hb dL_law_655 rfl (lv_at hl 0 rfl) ?_
  refine lv_iconst (pc := 656) (v := zI 1) hx hb dL_law_656 rfl ?_
  refine zr_iadd (pc := 657) (d := i + 1) hx hb dL_law_657 rfl ?_
  refine zr_sld (pc := 658) hx hb hX hbl (Nat.not_le.mpr hbl) hS (by omega) (by omega) (by omega) dL_law_658 ?_
  refine zr_vwi (pc := 659) (As := [.int (zI (xv xs (i + 1)))]) (rest := [.int (zI (qCou g (n : Int) tl (xv xs (i + 1))))]) S (ct_X8_count l D cI cT H.size am μ g n hs tl tx hM hI hG.2.1 (xv xs (i + 1)) (xv_r xs (i + 1))) (cwV 1 hts gL_law_X8_count rfl rfl rfl (by decide +kernel) ⟨Nat.le_of_ble_eq_true rfl, Nat.le_of_ble_eq_true rfl⟩) zs0 hK hPm (zr_recv hK (hPm 0 (by decide)) rfl) hS (fun q h => h.elim (fun ⟨k, k0, e⟩ => by rw [e]; exact hG.2.2.2.2 k k0) (fun z => Nat.le_trans hS.1 z)) rfl hl.1 rfl (Nat.le_of_ble_eq_true rfl) dL_law_659 ⟨Nat.le_of_ble_eq_true rfl, Nat.le_of_ble_eq_true rfl⟩ (fun r8 H2 locs2 hG8 hz2 hk2 hS2 => ?_)
  obtain ⟨e8, μ', hM', hPm'⟩ := hG8
  subst e8
  refine lv_icmp_eq (pc := 662) (tgt := 997) hx hb dL_law_662 (by decide) (fun _ => ?_) (fun z => absurd rfl z)
  exact next H2 locs2 ls ⟨g, n, hs, tl, tx, hgO, ⟨σ, σs, m0, rd, rp, hR, hC, hn, hm, cW_keep ⟨hP, hH1, hH2, hQ, hY⟩ hG hk2⟩, ⟨μ', hM', hPm'⟩, LX_k8 hLX hG hk2⟩ hS2 hl
set_option maxHeartbeats 4000000 in
theorem lwc_17 {p : Program} {l : Launch} {e : Env} {s : State} {m : MethodId} {below : List Frame} {meth : Method} {c : Code} {H : Heap} {locs : List Loc} {ls : Array Slot} {Q : State → Prop} {D : va_G} {cI cT : ClassId} {b L : Nat} {xs : Nat → Int32} {ad am : Nat → Nat} {i : Int}
    (S : CallFix p m c cL_law 4 s #[Value.ref b] wsL_law RL) (hK : zK D cI cT s) (hX : va_X b L xs s s.heap) (hbl : b < s.heap.size) (hL : (L : Int) ≤ 3072) (hG : LG ad am s.heap.size) (hLI : LI D cI cT ad am s.heap.size s H) (hS : va_S (fun q => s.heap.size ≤ q) s.heap H locs)
    (hl : lv_has ls 4 [(3, .int (zI i)), (2, .ref (am 0)), (1, .ref (ad 120)), (0, .ref b)]) (i0 : 0 ≤ i) (i1 : i + 6 ≤ (L : Int))
    (next : ∀ (H1 : Heap) (locs1 : List Loc) (ls1 : Array Slot), LI D cI cT ad am s.heap.size s H1 → va_S (fun q => s.heap.size ≤ q) s.heap H1 locs1 → lv_has ls1 4 [(3, .int (zI i)), (2, .ref (am 0)), (1, .ref (ad 120)), (0, .ref b)] → W p l e room_1 s m #[Value.ref b] below meth c H1 locs1 132 7992 Q (F0 m 997 ls1 [])) :
    W p l e room_1 s m #[Value.ref b] below meth c H locs 132 7992 Q (F0 m 667 ls []) := by
  have hx := S.1
  have hb := S.2.1
  have hts := S.2.2.2.2
  obtain ⟨g, n, hs, tl, tx, hgO, ⟨σ, σs, m0, rd, rp, hR, hC, hn, hm, hP, hH1, hH2, hQ, hY⟩, ⟨μ, hM, hPm⟩, hLX⟩ := hLI
  have hI := hgO.1
  obtain ⟨t0, t1, htx⟩ := hgO.2.2
  refine lv_aload_n (pc := 667) hx hb dL_law_667 rfl (lv_at hl 2 rfl) ?_
  refine lv_aload_n (pc := 668) hx hb dL_law_668 rfl (lv_at hl 3 rfl) ?_
  refine lv_iload_n (pc := 669) hx hb dL_law_669 rfl (lv_at hl 0 rfl) ?_
  refine lv_iconst (pc := 670) (v := zI 1) hx hb dL_law_670 rfl ?_
  refine zr_iadd (pc := 671) (d := i + 1) hx hb dL_law_671 rfl ?_
  refine zr_sld (pc := 672) hx hb hX hbl (Nat.not_le.mpr hbl) hS (by omega) (by omega) (by omega) dL_law_672 ?_
  refine lv_aload_n (pc := 673) hx hb dL_law_673 rfl (lv_at hl 3 rfl) ?_
  refine lv_iload_n (pc := 674) hx hb dL_law_674 rfl (lv_at hl 0 rfl) ?_
  refine lv_iconst (pc := 675) (v := zI 2) hx hb dL_law_675 rfl ?_
  refine zr_iadd (pc := 676) (d := i + 2) hx hb dL_law_676 rfl ?_
  refine zr_sld (pc := 677) hx hb hX hbl (Nat.not_le.mpr hbl) hS (by omega) (by omega) (by omega) dL_law_677 ?_
  refine zr_vi (pc := 678) (As := [.int (zI (xv xs (i + 1))), .int (zI (xv xs (i + 2)))]) (rest := []) S (ct_X7_costume l D cI cT ad σ g hR hI tl tx rd rp (xv xs (i + 1)) (xv xs (i + 2)) (xv_r xs (i + 1)) (xv_r xs (i + 2))) (cwV 2 hts gL_law_X7_costume rfl rfl rfl (by decide +kernel) ⟨Nat.le_of_ble_eq_true rfl, Nat.le_of_ble_eq_true rfl⟩) zs0 hK ⟨hP, hY⟩ (zr_recv hK hY.1 rfl) rfl hl.1 rfl (Nat.le_of_ble_eq_true rfl) dL_law_678 ⟨Nat.le_of_ble_eq_true rfl, Nat.le_of_ble_eq_true rfl⟩ (fun r7 e7 => ?_)
  subst e7
  refine lv_aload_n (pc := 681) hx hb dL_law_681 rfl (lv_at hl 1 rfl) ?_
  refine lv_aload_n (pc := 682) hx hb dL_law_682 rfl (lv_at hl 3 rfl) ?_
  refine lv_iload_n (pc := 683) hx hb dL_law_683 rfl (lv_at hl 0 rfl) ?_
  refine lv_iconst (pc := 684) (v := zI 1) hx hb dL_law_684 rfl ?_
  refine zr_iadd (pc := 685) (d := i + 1) hx hb dL_law_685 rfl ?_
  refine zr_sld (pc := 686) hx hb hX hbl (Nat.not_le.mpr hbl) hS (by omega) (by omega) (by omega) dL_law_686 ?_
  refine lv_aload_n (pc := 687) hx hb dL_law_687 rfl (lv_at hl 3 rfl) ?_
  refine lv_iload_n (pc := 688) hx hb dL_law_688 rfl (lv_at hl 0 rfl) ?_
  refine lv_iconst (pc := 689) (v := zI 2) hx hb dL_law_689 rfl ?_
  refine zr_iadd (pc := 690) (d := i + 2) hx hb dL_law_690 rfl ?_
  refine zr_sld (pc := 691) hx hb hX hbl (Nat.not_le.mpr hbl) hS (by omega) (by omega) (by omega) dL_law_691 ?_
  refine zr_vwi (pc := 692) (As := [.int (zI (xv xs (i + 1))), .int (zI (xv xs (i + 2)))]) (rest := [.int (zI (qCos g (xv xs (i + 1)) (xv xs (i + 2))))]) S (ct_X8_costume l D cI cT H.size am μ g n hs tl tx hM hI hG.2.1 (xv xs (i + 1)) (xv xs (i + 2)) (xv_r xs (i + 1)) (xv_r xs (i + 2))) (cwV 2 hts gL_law_X8_costume rfl rfl rfl (by decide +kernel) ⟨Nat.le_of_ble_eq_true rfl, Nat.le_of_ble_eq_true rfl⟩) zs0 hK hPm (zr_recv hK (hPm 0 (by decide)) rfl) hS (fun q h => h.elim (fun ⟨k, k0, e⟩ => by rw [e]; exact hG.2.2.2.2 k k0) (fun z => Nat.le_trans hS.1 z)) rfl hl.1 rfl (Nat.le_of_ble_eq_true rfl) dL_law_692 ⟨Nat.le_of_ble_eq_true rfl, Nat.le_of_ble_eq_true rfl⟩ (fun r8 H2 locs2 hG8 hz2 hk2 hS2 => ?_)
  obtain ⟨e8, μ', hM', hPm'⟩ := hG8
  subst e8
  refine lv_icmp_eq (pc := 695) (tgt := 997) hx hb dL_law_695 (by decide) (fun _ => ?_) (fun z => absurd rfl z)
  exact next H2 locs2 ls ⟨g, n, hs, tl, tx, hgO, ⟨σ, σs, m0, rd, rp, hR, hC, hn, hm, cW_keep ⟨hP, hH1, hH2, hQ, hY⟩ hG hk2⟩, ⟨μ', hM', hPm'⟩, LX_k8 hLX hG hk2⟩ hS2 hl
