/-! the law's body -/
theorem lp_n {D : va_G} {cI cT : ClassId} {ad : Nat → Nat} {s : State} {g : Int → Int} {n : Nat} {hs : Nat → Int → Int} {H : Heap} (h : zLP D cI cT ad s g n hs H) : n ≤ 5 := by
  obtain ⟨_, ⟨tx, _, σ, σs, m0, rd, rp, _, _, hn, _⟩, _⟩ := h
  exact hn
theorem nd_r (a k : Int) : -2147483648 ≤ nd a k ∧ nd a k ≤ 2147483647 := zt_r _
theorem rmn_r (a k : Int) : -2147483648 ≤ rmn a k ∧ rmn a k ≤ 2147483647 := zt_r _
theorem qCou_15 {g : Int → Int} {n tl : Int} : qCou g n tl 15 = gS g 3 := (show qCou g n tl 15 = g (8 + 15 - 12) from by simp [qCou]).trans (congrArg g (by decide))
theorem qCou_8 {g : Int → Int} {n tl : Int} : qCou g n tl 8 = aset g (g 0).toNat := by simp [qCou]
theorem qCou_16 {g : Int → Int} {n tl : Int} : qCou g n tl 16 = -2001 := by simp [qCou]
theorem addC_ok {g : Int → Int} {a b c d e : Int} (h1 : 40 ≤ a ∧ a ≤ 200) (h2 : 40 ≤ b ∧ b ≤ 200) (h3 : 40 ≤ c ∧ c ≤ 200) (h4 : 0 ≤ d ∧ d ≤ 8) (h5 : 0 ≤ e ∧ e ≤ 3) (h : g 0 < 16) : eAddC g a b c d e = 0 := (tif_t ⟨h1, h2, h3, h4, h5⟩ _ _).trans (tif_t h _ _)
theorem addA_ok {g : Int → Int} {a b c : Int} (h1 : 40 ≤ a ∧ a ≤ 200) (h2 : 40 ≤ b ∧ b ≤ 200) (h3 : 40 ≤ c ∧ c ≤ 200) (h : g 1 < 8) : eAddA g a b c = 0 := (tif_t ⟨h1, h2, h3⟩ _ _).trans (tif_t h _ _)
theorem pf_iff {g : Int → Int} {y v : Int} {n n1 : Nat} {hs hs1 : Nat → Int → Int} {g1 : Int → Int} (hS : SI g) (hy : nd y 15 = 10) (hw : ((actT g y).1 ≠ 0 ∧ v = (actT g y).1 ∧ v ≤ -2001 ∧ g1 = g ∧ n1 = n ∧ hs1 = hs) ∨ ((actT g y).1 = 0 ∧ v = (actT g y).2.1 ∧ -2000 ≤ v ∧ g1 = (actT g y).2.2 ∧ n1 = hpN n ∧ hs1 = hpS n hs g)) : v = -2002 ↔ 0 < prb g 0 + prb g 1 + prb g 2 + prb g 3 + prb g 4 := by
  have e : (actT g y).1 = ePerf g := by rw [actT_7 hy]
  rcases Int.lt_or_le 0 (prb g 0 + prb g 1 + prb g 2 + prb g 3 + prb g 4) with q | q
  · have h2 := e.trans (pf_y q)
    refine ⟨fun _ => q, fun _ => ?_⟩
    rcases hw with z | z
    · exact z.2.1.trans h2
    · exact absurd (h2.symm.trans z.1) (by decide)
  · have h2 := pf_n hS.1 q
    refine ⟨fun z9 => ?_, fun z9 => absurd z9 (by omega)⟩
    rcases hw with z | z
    · exact absurd (e.symm.trans (z.2.1.symm.trans z9)) h2
    · exact absurd z.2.2.1 (by omega)
set_option maxHeartbeats 16000000 in
set_option maxRecDepth 100000 in
theorem lw_body {p : Program} {l : Launch} {e : Env} {s : State} {m : MethodId} {below : List Frame} {meth : Method} {c : Code} {H : Heap} {locs : List Loc} {ls : Array Slot} {D : va_G} {cI cT : ClassId} {b L : Nat} {xs : Nat → Int32} {ad : Nat → Nat} {g : Int → Int} {n : Nat} {hs : Nat → Int → Int}
    (S : CallFix p m c cL_law 12 s #[Value.ref b] wsL_law RL) (hr : meth.sig.returnType = ret) (hlocks : meth.locks = false) (hK : zK D cI cT s) (hX : va_X b L xs s s.heap) (hbl : b < s.heap.size) (hLn : (L : Int) ≤ 260) (hJ : zJ ad 127) (hB : ∀ k : Nat, k < 127 → s.heap.size ≤ ad k) (hS : va_S (fun q => s.heap.size ≤ q) s.heap H locs)
    (h00 : g 0 = 0 ∧ g 1 = 0) (hL : zLP D cI cT ad s g n hs H) (hl : lv_has ls 12 [(1, .ref (ad 120)), (0, .ref b)]) :
    W p l e room_1 s m #[Value.ref b] below meth c H locs 127 3856 (lw_Z below #[Value.ref b] s) (F0 m 8 ls []) := by
  have hx := S.1
  have hb := S.2.1
  refine lv_iconst (pc := 8) (v := zI 0) hx hb dL_law_8 rfl ?_
  refine lv_istore_n (pc := 9) (lv' := [(2, .int (zI (0))), (1, .ref (ad 120)), (0, .ref (b))]) hx hb dL_law_9 rfl hl (by decide) rfl (fun ls hl => ?_)
  refine zr_hloop1 (fun (k : Nat) (H : Heap) => ((k : Int) ≤ 3) ∧ (∃ (g : Int → Int) (n : Nat) (hs : Nat → Int → Int), g 0 = (k : Int) ∧ g 1 = 0 ∧ zLP D cI cT ad s g n hs H)) (fun (k : Nat) => 3 - k) (fun (k : Nat) => [(0, .ref (b)), (1, .ref (ad 120)), (2, .int (zI ((k : Int))))]) ?_ (0) (⟨by omega, ⟨_, _, _, h00.1, h00.2, hL⟩⟩) hS (lv_sub hl [2, 1, 0] rfl)
  intro k H locs hinv hS ih_10 ls hl
  obtain ⟨h_k, hL0⟩ := hinv
  obtain ⟨g, n, hs, eg0, eg1, hL⟩ := hL0
  refine lv_iload_n (pc := 10) hx hb dL_law_10 rfl (lv_at hl 2 rfl) ?_
  refine lv_iconst (pc := 11) (v := zI 3) hx hb dL_law_11 rfl ?_
  refine zr_icmp_ge (pc := 12) (tgt := 76) hx hb dL_law_12 (by decide) (by omega) (by decide) (fun c_12 => ?_) (fun c_12 => ?_)
  · refine lv_iconst (pc := 76) (v := zI 0) hx hb dL_law_76 rfl ?_
    refine lv_istore_n (pc := 77) (lv' := [(2, .int (zI (0))), (0, .ref (b)), (1, .ref (ad 120))]) hx hb dL_law_77 rfl hl (by decide) rfl (fun ls hl => ?_)
    refine zr_hloop1 (fun (k : Nat) (H : Heap) => ((k : Int) ≤ 2) ∧ (∃ (g : Int → Int) (n : Nat) (hs : Nat → Int → Int), g 1 = (k : Int) ∧ zLP D cI cT ad s g n hs H)) (fun (k : Nat) => 2 - k) (fun (k : Nat) => [(0, .ref (b)), (1, .ref (ad 120)), (2, .int (zI ((k : Int))))]) ?_ (0) (⟨by omega, ⟨g, n, hs, eg1, hL⟩⟩) hS (lv_sub hl [1, 2, 0] rfl)
    intro k H locs hinv hS ih_78 ls hl
    obtain ⟨h_k, hL0⟩ := hinv
    obtain ⟨g, n, hs, eg1, hL⟩ := hL0
    refine lv_iload_n (pc := 78) hx hb dL_law_78 rfl (lv_at hl 2 rfl) ?_
    refine lv_iconst (pc := 79) (v := zI 2) hx hb dL_law_79 rfl ?_
    refine zr_icmp_ge (pc := 80) (tgt := 129) hx hb dL_law_80 (by decide) (by omega) (by decide) (fun c_80 => ?_) (fun c_80 => ?_)
    · refine lv_iconst (pc := 129) (v := zI 0) hx hb dL_law_129 rfl ?_
      refine lv_istore_n (pc := 130) (lv' := [(2, .int (zI (0))), (0, .ref (b)), (1, .ref (ad 120))]) hx hb dL_law_130 rfl hl (by decide) rfl (fun ls hl => ?_)
      refine zr_hloop1 (fun (t : Nat) (H : Heap) => ((t : Int) ≤ 16) ∧ (∃ (g : Int → Int) (n : Nat) (hs : Nat → Int → Int), zLP D cI cT ad s g n hs H)) (fun (t : Nat) => 16 - t) (fun (t : Nat) => [(0, .ref (b)), (1, .ref (ad 120)), (2, .int (zI ((t : Int))))]) ?_ (0) (⟨by omega, ⟨g, n, hs, hL⟩⟩) hS (lv_sub hl [1, 2, 0] rfl)
      intro t H locs hinv hS ih_131 ls hl
      obtain ⟨h_t, hL0⟩ := hinv
      obtain ⟨g, n, hs, hL⟩ := hL0
      have hn5 := lp_n hL
      refine lv_iload_n (pc := 131) hx hb dL_law_131 rfl (lv_at hl 2 rfl) ?_
      refine lv_bipush (pc := 132) (v := zI 16) hx hb dL_law_132 zc_bipush_16 ?_
      refine zr_icmp_ge (pc := 134) (tgt := 425) hx hb dL_law_134 (by decide) (by omega) (by decide) (fun c_134 => ?_) (fun c_134 => ?_)
      · refine lv_aload_n (pc := 425) hx hb dL_law_425 rfl (lv_at hl 1 rfl) ?_
        refine la_dg (pc := 426) (rest := []) S hK hL hl.1 (Nat.le_of_ble_eq_true rfl) dL_law_426 ?_
        refine lv_lstore_n (pc := 429) (lv' := [(2, .long (zL (DG g))), (0, .ref (b)), (1, .ref (ad 120))]) hx hb dL_law_429 rfl hl (by decide) rfl (fun ls hl => ?_)
        refine lv_aload_n (pc := 430) hx hb dL_law_430 rfl (lv_at hl 2 rfl) ?_
        refine lv_bipush (pc := 431) (v := zI 39) hx hb dL_law_431 zc_bipush_39 ?_
        refine lv_bipush (pc := 433) (v := zI 80) hx hb dL_law_433 zc_bipush_80 ?_
        refine lv_bipush (pc := 435) (v := zI 80) hx hb dL_law_435 zc_bipush_80 ?_
        refine lv_iconst (pc := 437) (v := zI 0) hx hb dL_law_437 rfl ?_
        refine lv_iconst (pc := 438) (v := zI 0) hx hb dL_law_438 rfl ?_
        refine la_addC (pc := 439) (rest := []) S hK hL hJ hB hS 39 (by decide) 80 (by decide) 80 (by decide) 0 (by decide) 0 (by decide) hl.1 (Nat.le_of_ble_eq_true rfl) dL_law_439 (fun v1 g1 n1 hs1 H locs hv1 hw1 hL1 hS => ?_)
        have hE : eAddC g 39 80 80 0 0 = -2001 := tif_f (by omega) _ _
        obtain ⟨e_v, e_g, e_n, e_h⟩ : v1 = -2001 ∧ g1 = g ∧ n1 = n ∧ hs1 = hs := by rcases hw1 with z | z <;> first | exact ⟨z.2.1.trans hE, z.2.2.2⟩ | exact absurd (hE.symm.trans z.1) (by decide)
        rw [e_v]
        rw [e_g, e_n, e_h] at hL1
        refine lv_sipush (pc := 442) (v := zI (-2001)) hx hb dL_law_442 zc_sipush_m2001 ?_
        refine zr_icmp_ne (pc := 445) (tgt := 536) hx hb dL_law_445 (by decide) (by decide) (by decide) (fun z => absurd z (by decide)) (fun _ => ?_)
        refine lv_aload_n (pc := 448) hx hb dL_law_448 rfl (lv_at hl 2 rfl) ?_
        refine lv_sipush (pc := 449) (v := zI 201) hx hb dL_law_449 zc_sipush_201 ?_
        refine lv_bipush (pc := 452) (v := zI 80) hx hb dL_law_452 zc_bipush_80 ?_
        refine lv_bipush (pc := 454) (v := zI 80) hx hb dL_law_454 zc_bipush_80 ?_
        refine la_addA (pc := 456) (rest := []) S hK hL1 hJ hB hS 201 (by decide) 80 (by decide) 80 (by decide) hl.1 (Nat.le_of_ble_eq_true rfl) dL_law_456 (fun v2 g2 n2 hs2 H locs hv2 hw2 hL2 hS => ?_)
        have hE : eAddA g 201 80 80 = -2001 := tif_f (by omega) _ _
        obtain ⟨e_v, e_g, e_n, e_h⟩ : v2 = -2001 ∧ g2 = g ∧ n2 = n ∧ hs2 = hs := by rcases hw2 with z | z <;> first | exact ⟨z.2.1.trans hE, z.2.2.2⟩ | exact absurd (hE.symm.trans z.1) (by decide)
        rw [e_v]
        rw [e_g, e_n, e_h] at hL2
        refine lv_sipush (pc := 459) (v := zI (-2001)) hx hb dL_law_459 zc_sipush_m2001 ?_
        refine zr_icmp_ne (pc := 462) (tgt := 536) hx hb dL_law_462 (by decide) (by decide) (by decide) (fun z => absurd z (by decide)) (fun _ => ?_)
        refine lv_aload_n (pc := 465) hx hb dL_law_465 rfl (lv_at hl 2 rfl) ?_
        refine lv_iconst (pc := 466) (v := zI 3) hx hb dL_law_466 rfl ?_
        refine lv_iconst (pc := 467) (v := zI 0) hx hb dL_law_467 rfl ?_
        refine la_set (pc := 468) (rest := []) S hK hL2 hJ hB hS 3 (by decide) 0 (by decide) hl.1 (Nat.le_of_ble_eq_true rfl) dL_law_468 (fun v3 g3 n3 hs3 H locs hv3 hw3 hL3 hS => ?_)
        have hE : eSet 3 0 = -2001 := tif_f (by omega) _ _
        obtain ⟨e_v, e_g, e_n, e_h⟩ : v3 = -2001 ∧ g3 = g ∧ n3 = n ∧ hs3 = hs := by rcases hw3 with z | z <;> first | exact ⟨z.2.1.trans hE, z.2.2.2⟩ | exact absurd (hE.symm.trans z.1) (by decide)
        rw [e_v]
        rw [e_g, e_n, e_h] at hL3
        refine lv_sipush (pc := 471) (v := zI (-2001)) hx hb dL_law_471 zc_sipush_m2001 ?_
        refine zr_icmp_ne (pc := 474) (tgt := 536) hx hb dL_law_474 (by decide) (by decide) (by decide) (fun z => absurd z (by decide)) (fun _ => ?_)
        refine lv_aload_n (pc := 477) hx hb dL_law_477 rfl (lv_at hl 2 rfl) ?_
        refine lv_iconst (pc := 478) (v := zI 0) hx hb dL_law_478 rfl ?_
        refine lv_iconst (pc := 479) (v := zI 3) hx hb dL_law_479 rfl ?_
        refine lv_iconst (pc := 480) (v := zI 1) hx hb dL_law_480 rfl ?_
        refine la_alt (pc := 481) (rest := []) S hK hL3 hJ hB hS 0 (by decide) 3 (by decide) 1 (by decide) hl.1 (Nat.le_of_ble_eq_true rfl) dL_law_481 (fun v4 g4 n4 hs4 H locs hv4 hw4 hL4 hS => ?_)
        have hE : eAlt g 0 3 1 = -2001 := tif_f (by omega) _ _
        obtain ⟨e_v, e_g, e_n, e_h⟩ : v4 = -2001 ∧ g4 = g ∧ n4 = n ∧ hs4 = hs := by rcases hw4 with z | z <;> first | exact ⟨z.2.1.trans hE, z.2.2.2⟩ | exact absurd (hE.symm.trans z.1) (by decide)
        rw [e_v]
        rw [e_g, e_n, e_h] at hL4
        refine lv_sipush (pc := 484) (v := zI (-2001)) hx hb dL_law_484 zc_sipush_m2001 ?_
        refine zr_icmp_ne (pc := 487) (tgt := 536) hx hb dL_law_487 (by decide) (by decide) (by decide) (fun z => absurd z (by decide)) (fun _ => ?_)
        refine lv_aload_n (pc := 490) hx hb dL_law_490 rfl (lv_at hl 2 rfl) ?_
        refine lv_iconst (pc := 491) (v := zI 0) hx hb dL_law_491 rfl ?_
        refine lv_iconst (pc := 492) (v := zI 0) hx hb dL_law_492 rfl ?_
        refine lv_bipush (pc := 493) (v := zI (-2)) hx hb dL_law_493 zc_bipush_m2 ?_
        refine la_wear (pc := 495) (rest := []) S hK hL4 hJ hB hS 0 (by decide) 0 (by decide) ((-2)) (by decide) hl.1 (Nat.le_of_ble_eq_true rfl) dL_law_495 (fun v5 g5 n5 hs5 H locs hv5 hw5 hL5 hS => ?_)
        have hE : eWear g 0 0 (-2) = -2001 := tif_f (by omega) _ _
        obtain ⟨e_v, e_g, e_n, e_h⟩ : v5 = -2001 ∧ g5 = g ∧ n5 = n ∧ hs5 = hs := by rcases hw5 with z | z <;> first | exact ⟨z.2.1.trans hE, z.2.2.2⟩ | exact absurd (hE.symm.trans z.1) (by decide)
        rw [e_v]
        rw [e_g, e_n, e_h] at hL5
        refine lv_sipush (pc := 498) (v := zI (-2001)) hx hb dL_law_498 zc_sipush_m2001 ?_
        refine zr_icmp_ne (pc := 501) (tgt := 536) hx hb dL_law_501 (by decide) (by decide) (by decide) (fun z => absurd z (by decide)) (fun _ => ?_)
        refine lv_aload_n (pc := 504) hx hb dL_law_504 rfl (lv_at hl 2 rfl) ?_
        refine lv_bipush (pc := 505) (v := zI 61) hx hb dL_law_505 zc_bipush_61 ?_
        refine la_pass (pc := 507) (rest := []) S hK hL5 hJ hB hS 61 (by decide) hl.1 (Nat.le_of_ble_eq_true rfl) dL_law_507 (fun v6 g6 n6 hs6 H locs hv6 hw6 hL6 hS => ?_)
        have hE : ePass g 61 = -2001 := tif_f (by omega) _ _
        obtain ⟨e_v, e_g, e_n, e_h⟩ : v6 = -2001 ∧ g6 = g ∧ n6 = n ∧ hs6 = hs := by rcases hw6 with z | z <;> first | exact ⟨z.2.1.trans hE, z.2.2.2⟩ | exact absurd (hE.symm.trans z.1) (by decide)
        rw [e_v]
        rw [e_g, e_n, e_h] at hL6
        refine lv_sipush (pc := 510) (v := zI (-2001)) hx hb dL_law_510 zc_sipush_m2001 ?_
        refine zr_icmp_ne (pc := 513) (tgt := 536) hx hb dL_law_513 (by decide) (by decide) (by decide) (fun z => absurd z (by decide)) (fun _ => ?_)
        refine lv_aload_n (pc := 516) hx hb dL_law_516 rfl (lv_at hl 2 rfl) ?_
        refine lv_iconst (pc := 517) (v := zI 5) hx hb dL_law_517 rfl ?_
        refine la_prb (pc := 518) (rest := []) S hK hL6 5 (by decide) hl.1 (Nat.le_of_ble_eq_true rfl) dL_law_518 ?_
        refine zr_top (b := (-2001)) (tff (by decide)) ?_
        refine lv_sipush (pc := 521) (v := zI (-2001)) hx hb dL_law_521 zc_sipush_m2001 ?_
        refine zr_icmp_ne (pc := 524) (tgt := 536) hx hb dL_law_524 (by decide) (by decide) (by decide) (fun z => absurd z (by decide)) (fun _ => ?_)
        refine lv_aload_n (pc := 527) hx hb dL_law_527 rfl (lv_at hl 2 rfl) ?_
        refine la_dg (pc := 528) (rest := []) S hK hL6 hl.1 (Nat.le_of_ble_eq_true rfl) dL_law_528 ?_
        refine lv_lload_n (pc := 531) hx hb dL_law_531 rfl (lv_at hl 0 rfl) ?_
        refine zr_lcmp_s (pc := 532) hx hb dL_law_532 ?_
        refine zr_if_eq (pc := 533) (tgt := 538) hx hb dL_law_533 (by decide) (by decide) (fun _ => ?_) (fun z => absurd z (by decide))
        refine lv_aload_n (pc := 538) hx hb dL_law_538 rfl (lv_at hl 2 rfl) ?_
        refine la_load (pc := 539) (rest := []) S hK hL6 hJ hB hS  hl.1 (Nat.le_of_ble_eq_true rfl) dL_law_539 (fun H locs hL7 hS => ?_)
        refine zr_if_ne (pc := 542) (tgt := 583) hx hb dL_law_542 (by decide) (by decide) (fun z => absurd z (by decide)) (fun _ => ?_)
        refine lv_aload_n (pc := 545) hx hb dL_law_545 rfl (lv_at hl 2 rfl) ?_
        refine la_dg (pc := 546) (rest := []) S hK hL7 hl.1 (Nat.le_of_ble_eq_true rfl) dL_law_546 ?_
        refine lv_lload_n (pc := 549) hx hb dL_law_549 rfl (lv_at hl 0 rfl) ?_
        refine zr_lcmp_s (pc := 550) hx hb dL_law_550 ?_
        refine zr_if_ne (pc := 551) (tgt := 583) hx hb dL_law_551 (by decide) (by decide) (fun z => absurd z (by decide)) (fun _ => ?_)
        refine lv_aload_n (pc := 554) hx hb dL_law_554 rfl (lv_at hl 2 rfl) ?_
        refine lv_bipush (pc := 555) (v := zI 16) hx hb dL_law_555 zc_bipush_16 ?_
        refine la_cnt (pc := 557) (rest := []) S hK hL7 16 (by decide) hl.1 (Nat.le_of_ble_eq_true rfl) dL_law_557 ?_
        refine zr_top (b := (-2001)) (qCou_16) ?_
        refine lv_sipush (pc := 560) (v := zI (-2001)) hx hb dL_law_560 zc_sipush_m2001 ?_
        refine zr_icmp_ne (pc := 563) (tgt := 583) hx hb dL_law_563 (by decide) (by decide) (by decide) (fun z => absurd z (by decide)) (fun _ => ?_)
        refine lv_aload_n (pc := 566) hx hb dL_law_566 rfl (lv_at hl 2 rfl) ?_
        refine lv_sipush (pc := 567) (v := zI 256) hx hb dL_law_567 zc_sipush_256 ?_
        refine la_app (pc := 570) (rest := []) S hK hL7 hJ hB hS  hl.1 (Nat.le_of_ble_eq_true rfl) dL_law_570 (fun H locs hS => ?_)
        refine lv_sipush (pc := 573) (v := zI (-2001)) hx hb dL_law_573 zc_sipush_m2001 ?_
        refine zr_icmp_ne (pc := 576) (tgt := 583) hx hb dL_law_576 (by decide) (by decide) (by decide) (fun z => absurd z (by decide)) (fun _ => ?_)
        refine lv_iconst (pc := 579) (v := zI 1) hx hb dL_law_579 rfl ?_
        refine lv_goto (pc := 580) (tgt := 584) hx hb dL_law_580 (by decide) ?_
        refine W.widen (k := 600000) (n := 7302250) (by decide) (by decide) ?_
        refine va_forget (fun q hq => hS.2.2 q hq) ?_
        exact lw_ret hx hb hr hlocks dL_law_584
      · refine lv_aload_n (pc := 137) hx hb dL_law_137 rfl (lv_at hl 0 rfl) ?_
        refine lv_iconst (pc := 138) (v := zI 4) hx hb dL_law_138 rfl ?_
        refine lv_iload_n (pc := 139) hx hb dL_law_139 rfl (lv_at hl 2 rfl) ?_
        refine zr_iadd (pc := 140) (d := 4 + ((t : Int))) hx hb dL_law_140 rfl ?_
        refine la_cell (pc := 141) (rest := []) S hK hX hLn hbl hS (4 + ((t : Int))) (by omega) (by omega) hl.1 (Nat.le_of_ble_eq_true rfl) dL_law_141 (fun y => ?_)
        refine lv_istore_n (pc := 144) (lv' := [(3, .int (zI (y))), (0, .ref (b)), (1, .ref (ad 120)), (2, .int (zI ((t : Int))))]) hx hb dL_law_144 rfl hl (by decide) rfl (fun ls hl => ?_)
        refine lv_aload_n (pc := 145) hx hb dL_law_145 rfl (lv_at hl 2 rfl) ?_
        refine la_dg (pc := 146) (rest := []) S hK hL hl.1 (Nat.le_of_ble_eq_true rfl) dL_law_146 ?_
        refine lv_lstore (pc := 149) (lv' := [(4, .long (zL (DG g))), (3, .int (zI (y))), (0, .ref (b)), (1, .ref (ad 120)), (2, .int (zI ((t : Int))))]) hx hb dL_law_149 hl (by decide) rfl (fun ls hl => ?_)
        refine lv_aload_n (pc := 151) hx hb dL_law_151 rfl (lv_at hl 3 rfl) ?_
        refine lv_iconst (pc := 152) (v := zI 0) hx hb dL_law_152 rfl ?_
        refine la_prb (pc := 153) (rest := []) S hK hL 0 (by decide) hl.1 (Nat.le_of_ble_eq_true rfl) dL_law_153 ?_
        refine zr_top (b := prb g 0) (tft ⟨by decide, by decide⟩) ?_
        have hp_0 := prb_bd hL.1.1 0
        refine lv_aload_n (pc := 156) hx hb dL_law_156 rfl (lv_at hl 3 rfl) ?_
        refine lv_iconst (pc := 157) (v := zI 1) hx hb dL_law_157 rfl ?_
        refine la_prb (pc := 158) (rest := [.int (zI (prb g 0))]) S hK hL 1 (by decide) hl.1 (Nat.le_of_ble_eq_true rfl) dL_law_158 ?_
        refine zr_top (b := prb g 1) (tft ⟨by decide, by decide⟩) ?_
        have hp_1 := prb_bd hL.1.1 1
        refine zr_iadd (pc := 161) (d := (prb g 0) + (prb g 1)) hx hb dL_law_161 rfl ?_
        refine lv_aload_n (pc := 162) hx hb dL_law_162 rfl (lv_at hl 3 rfl) ?_
        refine lv_iconst (pc := 163) (v := zI 2) hx hb dL_law_163 rfl ?_
        refine la_prb (pc := 164) (rest := [.int (zI ((prb g 0) + (prb g 1)))]) S hK hL 2 (by decide) hl.1 (Nat.le_of_ble_eq_true rfl) dL_law_164 ?_
        refine zr_top (b := prb g 2) (tft ⟨by decide, by decide⟩) ?_
        have hp_2 := prb_bd hL.1.1 2
        refine zr_iadd (pc := 167) (d := ((prb g 0) + (prb g 1)) + (prb g 2)) hx hb dL_law_167 rfl ?_
        refine lv_aload_n (pc := 168) hx hb dL_law_168 rfl (lv_at hl 3 rfl) ?_
        refine lv_iconst (pc := 169) (v := zI 3) hx hb dL_law_169 rfl ?_
        refine la_prb (pc := 170) (rest := [.int (zI (((prb g 0) + (prb g 1)) + (prb g 2)))]) S hK hL 3 (by decide) hl.1 (Nat.le_of_ble_eq_true rfl) dL_law_170 ?_
        refine zr_top (b := prb g 3) (tft ⟨by decide, by decide⟩) ?_
        have hp_3 := prb_bd hL.1.1 3
        refine zr_iadd (pc := 173) (d := (((prb g 0) + (prb g 1)) + (prb g 2)) + (prb g 3)) hx hb dL_law_173 rfl ?_
        refine lv_aload_n (pc := 174) hx hb dL_law_174 rfl (lv_at hl 3 rfl) ?_
        refine lv_iconst (pc := 175) (v := zI 4) hx hb dL_law_175 rfl ?_
        refine la_prb (pc := 176) (rest := [.int (zI ((((prb g 0) + (prb g 1)) + (prb g 2)) + (prb g 3)))]) S hK hL 4 (by decide) hl.1 (Nat.le_of_ble_eq_true rfl) dL_law_176 ?_
        refine zr_top (b := prb g 4) (tft ⟨by decide, by decide⟩) ?_
        have hp_4 := prb_bd hL.1.1 4
        refine zr_iadd (pc := 179) (d := ((((prb g 0) + (prb g 1)) + (prb g 2)) + (prb g 3)) + (prb g 4)) hx hb dL_law_179 rfl ?_
        refine lv_istore (pc := 180) (lv' := [(6, .int (zI (((((prb g 0) + (prb g 1)) + (prb g 2)) + (prb g 3)) + (prb g 4)))), (4, .long (zL (DG g))), (3, .int (zI (y))), (0, .ref (b)), (1, .ref (ad 120)), (2, .int (zI ((t : Int))))]) hx hb dL_law_180 hl (by decide) rfl (fun ls hl => ?_)
        refine lv_aload_n (pc := 182) hx hb dL_law_182 rfl (lv_at hl 4 rfl) ?_
        refine lv_iload_n (pc := 183) hx hb dL_law_183 rfl (lv_at hl 2 rfl) ?_
        refine la_act (pc := 184) (rest := []) S hK hL hJ hB hS y hl.1 (Nat.le_of_ble_eq_true rfl) dL_law_184 (fun v9 g9 n9 hs9 H locs hv9 hw9 hL9 hS => ?_)
        refine lv_istore (pc := 187) (lv' := [(7, .int (zI (v9))), (6, .int (zI (((((prb g 0) + (prb g 1)) + (prb g 2)) + (prb g 3)) + (prb g 4)))), (4, .long (zL (DG g))), (3, .int (zI (y))), (0, .ref (b)), (1, .ref (ad 120)), (2, .int (zI ((t : Int))))]) hx hb dL_law_187 hl (by decide) rfl (fun ls hl => ?_)
        refine lv_iload (pc := 189) hx hb dL_law_189 (lv_at hl 0 rfl) ?_
        refine lv_sipush (pc := 191) (v := zI (-2000)) hx hb dL_law_191 zc_sipush_m2000 ?_
        refine zr_cut0 (nL := 12) (True) ([(7, .int (zI (v9))), (6, .int (zI (((((prb g 0) + (prb g 1)) + (prb g 2)) + (prb g 3)) + (prb g 4)))), (4, .long (zL (DG g))), (3, .int (zI (y))), (0, .ref (b)), (1, .ref (ad 120)), (2, .int (zI ((t : Int))))]) ([]) (pc2 := 207) ?_ (fun J_207 => ?_)
        · intro  hinv ls hl
          refine lv_aload_n (pc := 207) hx hb dL_law_207 rfl (lv_at hl 5 rfl) ?_
          refine la_ri (pc := 208) (rest := []) S hK hL9 hl.1 (Nat.le_of_ble_eq_true rfl) dL_law_208 ?_
          refine zr_if_eq (pc := 211) (tgt := 249) hx hb dL_law_211 (by decide) (by decide) (fun z => absurd z (by decide)) (fun _ => ?_)
          have h15 := nd_15 y
          refine lv_iload_n (pc := 214) hx hb dL_law_214 rfl (lv_at hl 3 rfl) ?_
          refine lv_bipush (pc := 215) (v := zI 15) hx hb dL_law_215 zc_bipush_15 ?_
          refine zr_iand (pc := 217) (d := nd y 15) hx hb dL_law_217 (zi_nd _ _) ?_
          refine lv_bipush (pc := 218) (v := zI 10) hx hb dL_law_218 zc_bipush_10 ?_
          refine zr_cut0 (nL := 12) (True) ([(7, .int (zI (v9))), (6, .int (zI (((((prb g 0) + (prb g 1)) + (prb g 2)) + (prb g 3)) + (prb g 4)))), (4, .long (zL (DG g))), (3, .int (zI (y))), (0, .ref (b)), (1, .ref (ad 120)), (2, .int (zI ((t : Int))))]) ([]) (pc2 := 251) ?_ (fun J_251 => ?_)
          · intro  hinv ls hl
            have hn3 := nd_r (t : Int) 3
            refine lv_iload (pc := 251) hx hb dL_law_251 (lv_at hl 0 rfl) ?_
            refine lv_iconst (pc := 253) (v := zI (-1)) hx hb dL_law_253 rfl ?_
            refine zr_cut0h (A0 := fun q => s.heap.size ≤ q) (H0 := s.heap) (nL := 12) (fun  (H : Heap) => (∃ (n8 : Nat) (hs8 : Nat → Int → Int), zLP D cI cT ad s g9 n8 hs8 H)) ([(3, .int (zI (y))), (0, .ref (b)), (1, .ref (ad 120)), (2, .int (zI ((t : Int))))]) ([]) (pc2 := 309) ?_ (fun J_309 => ?_)
            · intro  H locs hinv hS ls hl
              have hJ9 := hinv
              obtain ⟨n8, hs8, hL8⟩ := hJ9
              have hr4 := rmn_r (t : Int) 4
              refine lv_iload_n (pc := 309) hx hb dL_law_309 rfl (lv_at hl 3 rfl) ?_
              refine lv_iconst (pc := 310) (v := zI 4) hx hb dL_law_310 rfl ?_
              refine zr_irem (pc := 311) (d := rmn ((t : Int)) 4) hx hb dL_law_311 (zi_rmn (by decide)) ?_
              refine lv_iconst (pc := 312) (v := zI 1) hx hb dL_law_312 rfl ?_
              refine zr_cut0 (nL := 12) (True) ([(0, .ref (b)), (1, .ref (ad 120)), (2, .int (zI ((t : Int))))]) ([]) (pc2 := 419) ?_ (fun J_419 => ?_)
              · intro  hinv ls hl
                refine zr_iinc (pc := 419) (d := ((t : Int)) + 1) (lv' := [(2, .int (zI (((t : Int)) + 1))), (0, .ref (b)), (1, .ref (ad 120))]) hx hb dL_law_419 hl (k := 2) rfl rfl (by decide) rfl (fun ls hl => ?_)
                refine lv_goto (pc := 422) (tgt := 131) hx hb dL_law_422 (by decide) ?_
                exact ih_131 (t + 1) H locs (⟨by omega, ⟨_, _, _, hL8⟩⟩) hS (by omega) ls (lv_sub hl [1, 2, 0] rfl)
              · skip
                refine zr_icmp_ne (pc := 313) (tgt := 419) hx hb dL_law_313 (by decide) (by omega) (by decide) (fun c_313 => ?_) (fun c_313 => ?_)
                · exact J_419  (trivial) ls (lv_sub hl [1, 2, 3] rfl)
                · refine lv_aload_n (pc := 316) hx hb dL_law_316 rfl (lv_at hl 2 rfl) ?_
                  refine la_dg (pc := 317) (rest := []) S hK hL8 hl.1 (Nat.le_of_ble_eq_true rfl) dL_law_317 ?_
                  refine lv_lstore (pc := 320) (lv' := [(8, .long (zL (DG g9))), (3, .int (zI (y))), (0, .ref (b)), (1, .ref (ad 120)), (2, .int (zI ((t : Int))))]) hx hb dL_law_320 hl (by decide) rfl (fun ls hl => ?_)
                  refine lv_aload_n (pc := 322) hx hb dL_law_322 rfl (lv_at hl 3 rfl) ?_
                  refine lv_iload_n (pc := 323) hx hb dL_law_323 rfl (lv_at hl 1 rfl) ?_
                  refine lv_bipush (pc := 324) (v := zI 12) hx hb dL_law_324 zc_bipush_12 ?_
                  refine la_low (pc := 326) (rest := [.ref (ad 120)]) S hK y 12 (by decide) (by decide) hl.1 (Nat.le_of_ble_eq_true rfl) dL_law_326 ?_
                  have hw_326 := lw_bd (v := y) (n := 12) (by decide)
                  refine lv_iload_n (pc := 329) hx hb dL_law_329 rfl (lv_at hl 1 rfl) ?_
                  refine lv_iconst (pc := 330) (v := zI 4) hx hb dL_law_330 rfl ?_
                  refine zr_ishr (pc := 331) (d := shr y 4) hx hb dL_law_331 (zi_sr _ _) ?_
                  refine lv_iconst (pc := 332) (v := zI 2) hx hb dL_law_332 rfl ?_
                  refine la_low (pc := 333) (rest := [.int (zI (lw y 12)), .ref (ad 120)]) S hK (shr y 4) 2 (by decide) (by decide) hl.1 (Nat.le_of_ble_eq_true rfl) dL_law_333 ?_
                  have hw_333 := lw_bd (v := (shr y 4)) (n := 2) (by decide)
                  refine la_cfor (pc := 336) (rest := []) S hK hL8 (lw y 12) (by omega) (lw (shr y 4) 2) (by omega) hl.1 (Nat.le_of_ble_eq_true rfl) dL_law_336 ?_
                  refine zr_top (b := qFor g9 (lw y 12) (lw (shr y 4) 2)) (rfl) ?_
                  have hcf := qFor_is hL8.1.1 (lw y 12) (lw (shr y 4) 2)
                  have hnc := iv_nC hL8.1.1
                  refine lv_istore (pc := 339) (lv' := [(10, .int (zI (qFor g9 (lw y 12) (lw (shr y 4) 2)))), (8, .long (zL (DG g9))), (3, .int (zI (y))), (0, .ref (b)), (1, .ref (ad 120)), (2, .int (zI ((t : Int))))]) hx hb dL_law_339 hl (by decide) rfl (fun ls hl => ?_)
                  refine lv_iload (pc := 341) hx hb dL_law_341 (lv_at hl 0 rfl) ?_
                  refine zr_if_ge (pc := 343) (tgt := 350) hx hb dL_law_343 (by decide) (by omega) (fun c_343 => ?_) (fun c_343 => ?_)
                  · obtain ⟨z1, z2, z4, z5, z3⟩ := hcf.resolve_left (fun z => absurd z.2 (by omega))
                    refine lv_aload_n (pc := 350) hx hb dL_law_350 rfl (lv_at hl 4 rfl) ?_
                    refine lv_iload (pc := 351) hx hb dL_law_351 (lv_at hl 0 rfl) ?_
                    refine lv_iload_n (pc := 353) hx hb dL_law_353 rfl (lv_at hl 2 rfl) ?_
                    refine lv_iconst (pc := 354) (v := zI 4) hx hb dL_law_354 rfl ?_
                    refine zr_ishr (pc := 355) (d := shr y 4) hx hb dL_law_355 (zi_sr _ _) ?_
                    refine lv_iconst (pc := 356) (v := zI 2) hx hb dL_law_356 rfl ?_
                    refine la_low (pc := 357) (rest := [.int (zI (qFor g9 (lw y 12) (lw (shr y 4) 2))), .ref (ad 120)]) S hK (shr y 4) 2 (by decide) (by decide) hl.1 (Nat.le_of_ble_eq_true rfl) dL_law_357 ?_
                    have hw_357 := lw_bd (v := (shr y 4)) (n := 2) (by decide)
                    refine la_lst (pc := 360) (rest := []) S hK hL8 (qFor g9 (lw y 12) (lw (shr y 4) 2)) (by omega) (lw (shr y 4) 2) (by omega) hl.1 (Nat.le_of_ble_eq_true rfl) dL_law_360 ?_
                    refine zr_top (b := lst g9 (qFor g9 (lw y 12) (lw (shr y 4) 2)) (lw (shr y 4) 2)) (tft ⟨z1, z2⟩) ?_
                    have hlm := lst_bd hL8.1.1 (c := (qFor g9 (lw y 12) (lw (shr y 4) 2))) (a := (lw (shr y 4) 2)) z1.1 z1.2 z2.1 z2.2
                    refine lv_istore (pc := 363) (lv' := [(11, .int (zI (lst g9 (qFor g9 (lw y 12) (lw (shr y 4) 2)) (lw (shr y 4) 2)))), (10, .int (zI (qFor g9 (lw y 12) (lw (shr y 4) 2)))), (8, .long (zL (DG g9))), (3, .int (zI (y))), (0, .ref (b)), (1, .ref (ad 120)), (2, .int (zI ((t : Int))))]) hx hb dL_law_363 hl (by decide) rfl (fun ls hl => ?_)
                    refine lv_iload (pc := 365) hx hb dL_law_365 (lv_at hl 0 rfl) ?_
                    refine zr_if_lt (pc := 367) (tgt := 417) hx hb dL_law_367 (by decide) (by omega) (fun c_367 => ?_) (fun c_367 => ?_)
                    · exact False.elim (by first | omega | exact z3 ((aset_bit z1.1 z1.2).mp c_404))
                    · refine lv_iload (pc := 370) hx hb dL_law_370 (lv_at hl 1 rfl) ?_
                      refine zr_if_lt (pc := 372) (tgt := 407) hx hb dL_law_372 (by decide) (by omega) (fun c_372 => ?_) (fun c_372 => ?_)
                      · refine lv_aload_n (pc := 407) hx hb dL_law_407 rfl (lv_at hl 5 rfl) ?_
                        refine la_dg (pc := 408) (rest := []) S hK hL8 hl.1 (Nat.le_of_ble_eq_true rfl) dL_law_408 ?_
                        refine lv_lload (pc := 411) hx hb dL_law_411 (lv_at hl 2 rfl) ?_
                        refine zr_lcmp_s (pc := 413) hx hb dL_law_413 ?_
                        refine zr_if_eq (pc := 414) (tgt := 419) hx hb dL_law_414 (by decide) (by decide) (fun _ => ?_) (fun z => absurd z (by decide))
                        exact J_419  (trivial) ls (lv_sub hl [4, 5, 6] rfl)
                      · skip
                        refine lv_aload_n (pc := 375) hx hb dL_law_375 rfl (lv_at hl 5 rfl) ?_
                        refine lv_iload (pc := 376) hx hb dL_law_376 (lv_at hl 1 rfl) ?_
                        refine lv_bipush (pc := 378) (v := zI 9) hx hb dL_law_378 zc_bipush_9 ?_
                        refine la_cos (pc := 380) (rest := []) S hK hL8 (qFor g9 (lw y 12) (lw (shr y 4) 2)) (by omega) 9 (by decide) hl.1 (Nat.le_of_ble_eq_true rfl) dL_law_380 ?_
                        refine zr_top (b := gC g9 (qFor g9 (lw y 12) (lw (shr y 4) 2)) 6) (qCos_c z1.1 z1.2 (by decide) (by decide) (by decide)) ?_
                        have hdi := iv_di hL8.1.1 (c := (qFor g9 (lw y 12) (lw (shr y 4) 2))) z1.1 z1.2
                        have hdl := iv_dl hL8.1.1
                        refine lv_aload_n (pc := 383) hx hb dL_law_383 rfl (lv_at hl 5 rfl) ?_
                        refine lv_bipush (pc := 384) (v := zI 15) hx hb dL_law_384 zc_bipush_15 ?_
                        refine la_cnt (pc := 386) (rest := [.int (zI (gC g9 (qFor g9 (lw y 12) (lw (shr y 4) 2)) 6))]) S hK hL8 15 (by decide) hl.1 (Nat.le_of_ble_eq_true rfl) dL_law_386 ?_
                        refine zr_top (b := gS g9 3) (qCou_15) ?_
                        refine zr_icmp_ge (pc := 389) (tgt := 417) hx hb dL_law_389 (by decide) (by omega) (by omega) (fun c_389 => ?_) (fun c_389 => ?_)
                        · exact False.elim (by first | omega | exact z3 ((aset_bit z1.1 z1.2).mp c_404))
                        · refine lv_aload_n (pc := 392) hx hb dL_law_392 rfl (lv_at hl 5 rfl) ?_
                          refine lv_bipush (pc := 393) (v := zI 8) hx hb dL_law_393 zc_bipush_8 ?_
                          refine la_cnt (pc := 395) (rest := []) S hK hL8 8 (by decide) hl.1 (Nat.le_of_ble_eq_true rfl) dL_law_395 ?_
                          refine zr_top (b := aset g9 (g9 0).toNat) (qCou_8) ?_
                          have hab := aset_b7 hL8.1.1
                          refine lv_iload (pc := 398) hx hb dL_law_398 (lv_at hl 1 rfl) ?_
                          refine zr_ishr (pc := 400) (d := (aset g9 (g9 0).toNat) / pw (qFor g9 (lw y 12) (lw (shr y 4) 2))) hx hb dL_law_400 (zi_shr (by omega) (by omega) (by omega) (by omega)) ?_
                          refine lv_iconst (pc := 401) (v := zI 1) hx hb dL_law_401 rfl ?_
                          refine zr_iand (pc := 402) (d := ((aset g9 (g9 0).toNat) / pw (qFor g9 (lw y 12) (lw (shr y 4) 2))) % 2) hx hb dL_law_402 (zi_and1 (dv_bd (by omega) (by omega) _).1 (Int.le_trans (dv_bd (by omega) (by omega) _).2 (by decide))) ?_
                          refine lv_iconst (pc := 403) (v := zI 1) hx hb dL_law_403 rfl ?_
                          refine zr_icmp_eq (pc := 404) (tgt := 417) hx hb dL_law_404 (by decide) (by omega) (by decide) (fun c_404 => ?_) (fun c_404 => ?_)
                          · exact False.elim (by first | omega | exact z3 ((aset_bit z1.1 z1.2).mp c_404))
                          · refine lv_aload_n (pc := 407) hx hb dL_law_407 rfl (lv_at hl 5 rfl) ?_
                            refine la_dg (pc := 408) (rest := []) S hK hL8 hl.1 (Nat.le_of_ble_eq_true rfl) dL_law_408 ?_
                            refine lv_lload (pc := 411) hx hb dL_law_411 (lv_at hl 2 rfl) ?_
                            refine zr_lcmp_s (pc := 413) hx hb dL_law_413 ?_
                            refine zr_if_eq (pc := 414) (tgt := 419) hx hb dL_law_414 (by decide) (by decide) (fun _ => ?_) (fun z => absurd z (by decide))
                            exact J_419  (trivial) ls (lv_sub hl [4, 5, 6] rfl)
                  · refine lv_iconst (pc := 346) (v := zI 0) hx hb dL_law_346 rfl ?_
                    refine lv_goto (pc := 347) (tgt := 363) hx hb dL_law_347 (by decide) ?_
                    refine lv_istore (pc := 363) (lv' := [(11, .int (zI (0))), (10, .int (zI (qFor g9 (lw y 12) (lw (shr y 4) 2)))), (8, .long (zL (DG g9))), (3, .int (zI (y))), (0, .ref (b)), (1, .ref (ad 120)), (2, .int (zI ((t : Int))))]) hx hb dL_law_363 hl (by decide) rfl (fun ls hl => ?_)
                    refine lv_iload (pc := 365) hx hb dL_law_365 (lv_at hl 0 rfl) ?_
                    refine zr_if_lt (pc := 367) (tgt := 417) hx hb dL_law_367 (by decide) (by decide) (fun z => absurd z (by decide)) (fun _ => ?_)
                    refine lv_iload (pc := 370) hx hb dL_law_370 (lv_at hl 1 rfl) ?_
                    refine zr_if_lt (pc := 372) (tgt := 407) hx hb dL_law_372 (by decide) (by omega) (fun c_372 => ?_) (fun c_372 => ?_)
                    · refine lv_aload_n (pc := 407) hx hb dL_law_407 rfl (lv_at hl 5 rfl) ?_
                      refine la_dg (pc := 408) (rest := []) S hK hL8 hl.1 (Nat.le_of_ble_eq_true rfl) dL_law_408 ?_
                      refine lv_lload (pc := 411) hx hb dL_law_411 (lv_at hl 2 rfl) ?_
                      refine zr_lcmp_s (pc := 413) hx hb dL_law_413 ?_
                      refine zr_if_eq (pc := 414) (tgt := 419) hx hb dL_law_414 (by decide) (by decide) (fun _ => ?_) (fun z => absurd z (by decide))
                      exact J_419  (trivial) ls (lv_sub hl [4, 5, 6] rfl)
                    · exact absurd c_372 (by omega)
            · skip
              refine zr_icmp_lt (pc := 254) (tgt := 309) hx hb dL_law_254 (by decide) (by omega) (by decide) (fun c_254 => ?_) (fun c_254 => ?_)
              · exact J_309  H locs (⟨_, _, hL9⟩) hS ls (lv_sub hl [3, 4, 5, 6] rfl)
              · refine lv_iload_n (pc := 257) hx hb dL_law_257 rfl (lv_at hl 6 rfl) ?_
                refine lv_iconst (pc := 258) (v := zI 3) hx hb dL_law_258 rfl ?_
                refine zr_iand (pc := 259) (d := nd ((t : Int)) 3) hx hb dL_law_259 (zi_nd _ _) ?_
                refine lv_iconst (pc := 260) (v := zI 2) hx hb dL_law_260 rfl ?_
                refine zr_icmp_ne (pc := 261) (tgt := 309) hx hb dL_law_261 (by decide) (by omega) (by decide) (fun c_261 => ?_) (fun c_261 => ?_)
                · exact J_309  H locs (⟨_, _, hL9⟩) hS ls (lv_sub hl [3, 4, 5, 6] rfl)
                · refine lv_aload_n (pc := 264) hx hb dL_law_264 rfl (lv_at hl 5 rfl) ?_
                  refine la_dg (pc := 265) (rest := []) S hK hL9 hl.1 (Nat.le_of_ble_eq_true rfl) dL_law_265 ?_
                  refine lv_lstore (pc := 268) (lv' := [(8, .long (zL (DG g9))), (7, .int (zI (v9))), (6, .int (zI (((((prb g 0) + (prb g 1)) + (prb g 2)) + (prb g 3)) + (prb g 4)))), (4, .long (zL (DG g))), (3, .int (zI (y))), (0, .ref (b)), (1, .ref (ad 120)), (2, .int (zI ((t : Int))))]) hx hb dL_law_268 hl (by decide) rfl (fun ls hl => ?_)
                  refine lv_aload_n (pc := 270) hx hb dL_law_270 rfl (lv_at hl 6 rfl) ?_
                  have hh := hpS_l n hs g hn5
                  have hp5 := hpN_le n
                  obtain ⟨k1, k2, k3, k4, k5, k6⟩ : (actT g y).1 = 0 ∧ v9 = (actT g y).2.1 ∧ -2000 ≤ v9 ∧ g9 = (actT g y).2.2 ∧ n9 = hpN n ∧ hs9 = hpS n hs g := by
                    rcases hw9 with z | z
                    · exact absurd z.2.2.1 (by omega)
                    · exact z
                  have kS : hs9 (n9 - 1) = g := by rw [k6, k5]; exact hh.1
                  refine la_undo (pc := 271) (rest := []) S hK hL9 hJ hB hS (by rw [k5]; exact hh.2) (by rw [kS]; exact hL.1) hl.1 (Nat.le_of_ble_eq_true rfl) dL_law_271 (fun H locs hLU hS => ?_)
                  rw [kS] at hLU
                  refine zr_if_lt (pc := 274) (tgt := 307) hx hb dL_law_274 (by decide) (by omega) (fun c_274 => ?_) (fun c_274 => ?_)
                  · exact False.elim (by omega)
                  · refine lv_aload_n (pc := 277) hx hb dL_law_277 rfl (lv_at hl 6 rfl) ?_
                    refine la_dg (pc := 278) (rest := []) S hK hLU hl.1 (Nat.le_of_ble_eq_true rfl) dL_law_278 ?_
                    refine lv_lload (pc := 281) hx hb dL_law_281 (lv_at hl 3 rfl) ?_
                    refine zr_lcmp_s (pc := 283) hx hb dL_law_283 ?_
                    refine zr_if_ne (pc := 284) (tgt := 307) hx hb dL_law_284 (by decide) (by decide) (fun z => absurd z (by decide)) (fun _ => ?_)
                    refine lv_aload_n (pc := 287) hx hb dL_law_287 rfl (lv_at hl 6 rfl) ?_
                    refine lv_iload_n (pc := 288) hx hb dL_law_288 rfl (lv_at hl 4 rfl) ?_
                    refine la_act (pc := 289) (rest := []) S hK hLU hJ hB hS y hl.1 (Nat.le_of_ble_eq_true rfl) dL_law_289 (fun v10 g10 n10 hs10 H locs hv10 hw10 hL10 hS => ?_)
                    have eV : v10 = v9 := by rcases hw10 with z | z <;> first | exact absurd k1 z.1 | exact z.2.1.trans k2.symm
                    have eQ : g10 = g9 := by rcases hw10 with z | z <;> first | exact absurd k1 z.1 | exact z.2.2.2.1.trans k4.symm
                    refine lv_iload (pc := 292) hx hb dL_law_292 (lv_at hl 1 rfl) ?_
                    refine zr_icmp_ne (pc := 294) (tgt := 307) hx hb dL_law_294 (by decide) (by omega) (by omega) (fun c_294 => ?_) (fun c_294 => ?_)
                    · exact False.elim (by omega)
                    · refine lv_aload_n (pc := 297) hx hb dL_law_297 rfl (lv_at hl 6 rfl) ?_
                      refine la_dg (pc := 298) (rest := []) S hK hL10 hl.1 (Nat.le_of_ble_eq_true rfl) dL_law_298 ?_
                      rw [eQ]
                      refine lv_lload (pc := 301) hx hb dL_law_301 (lv_at hl 0 rfl) ?_
                      refine zr_lcmp_s (pc := 303) hx hb dL_law_303 ?_
                      refine zr_if_eq (pc := 304) (tgt := 309) hx hb dL_law_304 (by decide) (by decide) (fun _ => ?_) (fun z => absurd z (by decide))
                      exact J_309  H locs (⟨_, _, eQ ▸ hL10⟩) hS ls (lv_sub hl [4, 5, 6, 7] rfl)
          · skip
            refine zr_icmp_ne (pc := 220) (tgt := 251) hx hb dL_law_220 (by decide) (by omega) (by decide) (fun c_220 => ?_) (fun c_220 => ?_)
            · exact J_251  (trivial) ls (lv_sub hl [0, 1, 2, 3, 4, 5, 6] rfl)
            · have hpf := pf_iff hL.1 c_220 hw9
              refine lv_iload (pc := 223) hx hb dL_law_223 (lv_at hl 0 rfl) ?_
              refine lv_sipush (pc := 225) (v := zI (-2002)) hx hb dL_law_225 zc_sipush_m2002 ?_
              refine zr_icmp_ne (pc := 228) (tgt := 235) hx hb dL_law_228 (by decide) (by omega) (by decide) (fun c_228 => ?_) (fun c_228 => ?_)
              · refine lv_iconst (pc := 235) (v := zI 0) hx hb dL_law_235 rfl ?_
                refine lv_iload (pc := 236) hx hb dL_law_236 (lv_at hl 1 rfl) ?_
                refine zr_if_le (pc := 238) (tgt := 245) hx hb dL_law_238 (by decide) (by omega) (fun c_238 => ?_) (fun c_238 => ?_)
                · refine lv_iconst (pc := 245) (v := zI 0) hx hb dL_law_245 rfl ?_
                  refine zr_icmp_eq (pc := 246) (tgt := 251) hx hb dL_law_246 (by decide) (by decide) (by decide) (fun _ => ?_) (fun z => absurd z (by decide))
                  exact J_251  (trivial) ls (lv_sub hl [0, 1, 2, 3, 4, 5, 6] rfl)
                · refine lv_iconst (pc := 241) (v := zI 1) hx hb dL_law_241 rfl ?_
                  refine lv_goto (pc := 242) (tgt := 246) hx hb dL_law_242 (by decide) ?_
                  refine zr_icmp_eq (pc := 246) (tgt := 251) hx hb dL_law_246 (by decide) (by decide) (by decide) (fun z => absurd z (by decide)) (fun _ => ?_)
                  exact False.elim (by omega)
              · refine lv_iconst (pc := 231) (v := zI 1) hx hb dL_law_231 rfl ?_
                refine lv_goto (pc := 232) (tgt := 236) hx hb dL_law_232 (by decide) ?_
                refine lv_iload (pc := 236) hx hb dL_law_236 (lv_at hl 1 rfl) ?_
                refine zr_if_le (pc := 238) (tgt := 245) hx hb dL_law_238 (by decide) (by omega) (fun c_238 => ?_) (fun c_238 => ?_)
                · refine lv_iconst (pc := 245) (v := zI 0) hx hb dL_law_245 rfl ?_
                  refine zr_icmp_eq (pc := 246) (tgt := 251) hx hb dL_law_246 (by decide) (by decide) (by decide) (fun z => absurd z (by decide)) (fun _ => ?_)
                  exact False.elim (by omega)
                · refine lv_iconst (pc := 241) (v := zI 1) hx hb dL_law_241 rfl ?_
                  refine lv_goto (pc := 242) (tgt := 246) hx hb dL_law_242 (by decide) ?_
                  refine zr_icmp_eq (pc := 246) (tgt := 251) hx hb dL_law_246 (by decide) (by decide) (by decide) (fun _ => ?_) (fun z => absurd z (by decide))
                  exact J_251  (trivial) ls (lv_sub hl [0, 1, 2, 3, 4, 5, 6] rfl)
        · skip
          refine zr_icmp_ge (pc := 194) (tgt := 207) hx hb dL_law_194 (by decide) (by omega) (by decide) (fun c_194 => ?_) (fun c_194 => ?_)
          · exact J_207  (trivial) ls (lv_sub hl [0, 1, 2, 3, 4, 5, 6] rfl)
          · have eG : g9 = g := by rcases hw9 with z | z <;> first | exact z.2.2.2.1 | exact absurd z.2.2.1 (by omega)
            refine lv_aload_n (pc := 197) hx hb dL_law_197 rfl (lv_at hl 5 rfl) ?_
            refine la_dg (pc := 198) (rest := []) S hK hL9 hl.1 (Nat.le_of_ble_eq_true rfl) dL_law_198 ?_
            rw [eG]
            refine lv_lload (pc := 201) hx hb dL_law_201 (lv_at hl 2 rfl) ?_
            refine zr_lcmp_s (pc := 203) hx hb dL_law_203 ?_
            refine zr_if_ne (pc := 204) (tgt := 249) hx hb dL_law_204 (by decide) (by decide) (fun z => absurd z (by decide)) (fun _ => ?_)
            exact J_207  (trivial) ls (lv_sub hl [0, 1, 2, 3, 4, 5, 6] rfl)
    · refine lv_aload_n (pc := 83) hx hb dL_law_83 rfl (lv_at hl 0 rfl) ?_
      refine lv_iconst (pc := 84) (v := zI 3) hx hb dL_law_84 rfl ?_
      refine lv_iload_n (pc := 85) hx hb dL_law_85 rfl (lv_at hl 2 rfl) ?_
      refine zr_iadd (pc := 86) (d := 3 + ((k : Int))) hx hb dL_law_86 rfl ?_
      refine la_cell (pc := 87) (rest := []) S hK hX hLn hbl hS (3 + ((k : Int))) (by omega) (by omega) hl.1 (Nat.le_of_ble_eq_true rfl) dL_law_87 (fun y => ?_)
      refine lv_istore_n (pc := 90) (lv' := [(3, .int (zI (y))), (0, .ref (b)), (1, .ref (ad 120)), (2, .int (zI ((k : Int))))]) hx hb dL_law_90 rfl hl (by decide) rfl (fun ls hl => ?_)
      refine lv_aload_n (pc := 91) hx hb dL_law_91 rfl (lv_at hl 2 rfl) ?_
      refine lv_bipush (pc := 92) (v := zI 76) hx hb dL_law_92 zc_bipush_76 ?_
      refine lv_iload_n (pc := 94) hx hb dL_law_94 rfl (lv_at hl 0 rfl) ?_
      refine lv_bipush (pc := 95) (v := zI 20) hx hb dL_law_95 zc_bipush_20 ?_
      refine la_low (pc := 97) (rest := [.int (zI (76)), .ref (ad 120)]) S hK y 20 (by decide) (by decide) hl.1 (Nat.le_of_ble_eq_true rfl) dL_law_97 ?_
      have hw_97 := lw_bd (v := y) (n := 20) (by decide)
      refine zr_iadd (pc := 100) (d := 76 + (lw y 20)) hx hb dL_law_100 rfl ?_
      refine lv_bipush (pc := 101) (v := zI 68) hx hb dL_law_101 zc_bipush_68 ?_
      refine lv_iload_n (pc := 103) hx hb dL_law_103 rfl (lv_at hl 0 rfl) ?_
      refine lv_iconst (pc := 104) (v := zI 4) hx hb dL_law_104 rfl ?_
      refine zr_ishr (pc := 105) (d := shr y 4) hx hb dL_law_105 (zi_sr _ _) ?_
      refine lv_bipush (pc := 106) (v := zI 20) hx hb dL_law_106 zc_bipush_20 ?_
      refine la_low (pc := 108) (rest := [.int (zI (68)), .int (zI (76 + (lw y 20))), .ref (ad 120)]) S hK (shr y 4) 20 (by decide) (by decide) hl.1 (Nat.le_of_ble_eq_true rfl) dL_law_108 ?_
      have hw_108 := lw_bd (v := (shr y 4)) (n := 20) (by decide)
      refine zr_iadd (pc := 111) (d := 68 + (lw (shr y 4) 20)) hx hb dL_law_111 rfl ?_
      refine lv_bipush (pc := 112) (v := zI 96) hx hb dL_law_112 zc_bipush_96 ?_
      refine la_addA (pc := 114) (rest := []) S hK hL hJ hB hS (76 + (lw y 20)) (by omega) (68 + (lw (shr y 4) 20)) (by omega) 96 (by decide) hl.1 (Nat.le_of_ble_eq_true rfl) dL_law_114 (fun v11 g11 n11 hs11 H locs hv11 hw11 hL11 hS => ?_)
      have hE : eAddA g (76 + lw y 20) (68 + lw (shr y 4) 20) 96 = 0 := addA_ok (by omega) (by omega) (by omega) (by omega)
      have e_114 : v11 = (k : Int) := by rcases hw11 with z | z <;> first | exact absurd hE z.1 | exact z.2.1.trans eg1
      have hN : ∃ (g : Int → Int) (n : Nat) (hs : Nat → Int → Int), g 1 = ((k + 1 : Nat) : Int) ∧ zLP D cI cT ad s g n hs H := ⟨_, _, _, by rcases hw11 with z | z <;> first | exact absurd hE z.1 | (rw [z.2.2.2.1]; exact mkA_1.trans (by omega)), hL11⟩
      refine lv_iload_n (pc := 117) hx hb dL_law_117 rfl (lv_at hl 3 rfl) ?_
      refine zr_icmp_eq (pc := 118) (tgt := 123) hx hb dL_law_118 (by decide) (by omega) (by omega) (fun c_118 => ?_) (fun c_118 => ?_)
      · refine zr_iinc (pc := 123) (d := ((k : Int)) + 1) (lv' := [(2, .int (zI (((k : Int)) + 1))), (3, .int (zI (y))), (0, .ref (b)), (1, .ref (ad 120))]) hx hb dL_law_123 hl (k := 3) rfl rfl (by decide) rfl (fun ls hl => ?_)
        refine lv_goto (pc := 126) (tgt := 78) hx hb dL_law_126 (by decide) ?_
        exact ih_78 (k + 1) H locs (⟨by omega, hN⟩) hS (by omega) ls (lv_sub hl [2, 3, 0] rfl)
      · exact absurd e_114 c_118
  · refine lv_aload_n (pc := 15) hx hb dL_law_15 rfl (lv_at hl 0 rfl) ?_
    refine lv_iload_n (pc := 16) hx hb dL_law_16 rfl (lv_at hl 2 rfl) ?_
    refine la_cell (pc := 17) (rest := []) S hK hX hLn hbl hS ((k : Int)) (by omega) (by omega) hl.1 (Nat.le_of_ble_eq_true rfl) dL_law_17 (fun y => ?_)
    refine lv_istore_n (pc := 20) (lv' := [(3, .int (zI (y))), (0, .ref (b)), (1, .ref (ad 120)), (2, .int (zI ((k : Int))))]) hx hb dL_law_20 rfl hl (by decide) rfl (fun ls hl => ?_)
    refine lv_aload_n (pc := 21) hx hb dL_law_21 rfl (lv_at hl 2 rfl) ?_
    refine lv_bipush (pc := 22) (v := zI 80) hx hb dL_law_22 zc_bipush_80 ?_
    refine lv_iload_n (pc := 24) hx hb dL_law_24 rfl (lv_at hl 0 rfl) ?_
    refine lv_bipush (pc := 25) (v := zI 20) hx hb dL_law_25 zc_bipush_20 ?_
    refine la_low (pc := 27) (rest := [.int (zI (80)), .ref (ad 120)]) S hK y 20 (by decide) (by decide) hl.1 (Nat.le_of_ble_eq_true rfl) dL_law_27 ?_
    have hw_27 := lw_bd (v := y) (n := 20) (by decide)
    refine zr_iadd (pc := 30) (d := 80 + (lw y 20)) hx hb dL_law_30 rfl ?_
    refine lv_bipush (pc := 31) (v := zI 70) hx hb dL_law_31 zc_bipush_70 ?_
    refine lv_iload_n (pc := 33) hx hb dL_law_33 rfl (lv_at hl 0 rfl) ?_
    refine lv_iconst (pc := 34) (v := zI 4) hx hb dL_law_34 rfl ?_
    refine zr_ishr (pc := 35) (d := shr y 4) hx hb dL_law_35 (zi_sr _ _) ?_
    refine lv_bipush (pc := 36) (v := zI 20) hx hb dL_law_36 zc_bipush_20 ?_
    refine la_low (pc := 38) (rest := [.int (zI (70)), .int (zI (80 + (lw y 20))), .ref (ad 120)]) S hK (shr y 4) 20 (by decide) (by decide) hl.1 (Nat.le_of_ble_eq_true rfl) dL_law_38 ?_
    have hw_38 := lw_bd (v := (shr y 4)) (n := 20) (by decide)
    refine zr_iadd (pc := 41) (d := 70 + (lw (shr y 4) 20)) hx hb dL_law_41 rfl ?_
    refine lv_bipush (pc := 42) (v := zI 100) hx hb dL_law_42 zc_bipush_100 ?_
    refine lv_iload_n (pc := 44) hx hb dL_law_44 rfl (lv_at hl 0 rfl) ?_
    refine lv_bipush (pc := 45) (v := zI 6) hx hb dL_law_45 zc_bipush_6 ?_
    refine zr_ishr (pc := 47) (d := shr y 6) hx hb dL_law_47 (zi_sr _ _) ?_
    refine lv_bipush (pc := 48) (v := zI 9) hx hb dL_law_48 zc_bipush_9 ?_
    refine la_low (pc := 50) (rest := [.int (zI (100)), .int (zI (70 + (lw (shr y 4) 20))), .int (zI (80 + (lw y 20))), .ref (ad 120)]) S hK (shr y 6) 9 (by decide) (by decide) hl.1 (Nat.le_of_ble_eq_true rfl) dL_law_50 ?_
    have hw_50 := lw_bd (v := (shr y 6)) (n := 9) (by decide)
    refine lv_iload_n (pc := 53) hx hb dL_law_53 rfl (lv_at hl 0 rfl) ?_
    refine lv_bipush (pc := 54) (v := zI 8) hx hb dL_law_54 zc_bipush_8 ?_
    refine zr_ishr (pc := 56) (d := shr y 8) hx hb dL_law_56 (zi_sr _ _) ?_
    refine lv_iconst (pc := 57) (v := zI 4) hx hb dL_law_57 rfl ?_
    refine la_low (pc := 58) (rest := [.int (zI (lw (shr y 6) 9)), .int (zI (100)), .int (zI (70 + (lw (shr y 4) 20))), .int (zI (80 + (lw y 20))), .ref (ad 120)]) S hK (shr y 8) 4 (by decide) (by decide) hl.1 (Nat.le_of_ble_eq_true rfl) dL_law_58 ?_
    have hw_58 := lw_bd (v := (shr y 8)) (n := 4) (by decide)
    refine la_addC (pc := 61) (rest := []) S hK hL hJ hB hS (80 + (lw y 20)) (by omega) (70 + (lw (shr y 4) 20)) (by omega) 100 (by decide) (lw (shr y 6) 9) (by omega) (lw (shr y 8) 4) (by omega) hl.1 (Nat.le_of_ble_eq_true rfl) dL_law_61 (fun v12 g12 n12 hs12 H locs hv12 hw12 hL12 hS => ?_)
    have hE : eAddC g (80 + lw y 20) (70 + lw (shr y 4) 20) 100 (lw (shr y 6) 9) (lw (shr y 8) 4) = 0 := addC_ok (by omega) (by omega) (by omega) (by omega) (by omega) (by omega)
    have e_61 : v12 = (k : Int) := by rcases hw12 with z | z <;> first | exact absurd hE z.1 | exact z.2.1.trans eg0
    have hN : ∃ (g : Int → Int) (n : Nat) (hs : Nat → Int → Int), g 0 = ((k + 1 : Nat) : Int) ∧ g 1 = 0 ∧ zLP D cI cT ad s g n hs H := ⟨_, _, _, by rcases hw12 with z | z <;> first | exact absurd hE z.1 | (rw [z.2.2.2.1]; exact mkC_0.trans (by omega)), by rcases hw12 with z | z <;> first | exact absurd hE z.1 | (rw [z.2.2.2.1]; exact (mkC_o (by omega) (by decide) (by omega)).trans eg1), hL12⟩
    refine lv_iload_n (pc := 64) hx hb dL_law_64 rfl (lv_at hl 3 rfl) ?_
    refine zr_icmp_eq (pc := 65) (tgt := 70) hx hb dL_law_65 (by decide) (by omega) (by omega) (fun c_65 => ?_) (fun c_65 => ?_)
    · refine zr_iinc (pc := 70) (d := ((k : Int)) + 1) (lv' := [(2, .int (zI (((k : Int)) + 1))), (3, .int (zI (y))), (0, .ref (b)), (1, .ref (ad 120))]) hx hb dL_law_70 hl (k := 3) rfl rfl (by decide) rfl (fun ls hl => ?_)
      refine lv_goto (pc := 73) (tgt := 10) hx hb dL_law_73 (by decide) ?_
      exact ih_10 (k + 1) H locs (⟨by omega, hN⟩) hS (by omega) ls (lv_sub hl [2, 3, 0] rfl)
    · exact absurd e_61 c_65
