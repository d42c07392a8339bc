/-! the law's cases, 18 to 26 -/
set_option maxHeartbeats 4000000 in
theorem lwc_18 {p : Program} {l : Launch} {e : Env} {s : State} {m : MethodId} {below : List Frame} {meth : Method} {c : Code} {H : Heap} {locs : List Loc} {ls : Array Slot} {Q : State → Prop} {D : va_G} {cI cT : ClassId} {b L : Nat} {xs : Nat → Int32} {ad am : Nat → Nat} {i : Int}
    (S : CallFix p m c cL_law 4 s #[Value.ref b] wsL_law RL) (hK : zK D cI cT s) (hX : va_X b L xs s s.heap) (hbl : b < s.heap.size) (hL : (L : Int) ≤ 3072) (hG : LG ad am s.heap.size) (hLI : LI D cI cT ad am s.heap.size s H) (hS : va_S (fun q => s.heap.size ≤ q) s.heap H locs)
    (hl : lv_has ls 4 [(3, .int (zI i)), (2, .ref (am 0)), (1, .ref (ad 120)), (0, .ref b)]) (i0 : 0 ≤ i) (i1 : i + 6 ≤ (L : Int))
    (next : ∀ (H1 : Heap) (locs1 : List Loc) (ls1 : Array Slot), LI D cI cT ad am s.heap.size s H1 → va_S (fun q => s.heap.size ≤ q) s.heap H1 locs1 → lv_has ls1 4 [(3, .int (zI i)), (2, .ref (am 0)), (1, .ref (ad 120)), (0, .ref b)] → W p l e room_1 s m #[Value.ref b] below meth c H1 locs1 132 7992 Q (F0 m 997 ls1 [])) :
    W p l e room_1 s m #[Value.ref b] below meth c H locs 132 7992 Q (F0 m 700 ls []) := by
  have hx := S.1
  have hb := S.2.1
  have hts := S.2.2.2.2
  obtain ⟨g, n, hs, tl, tx, hgO, ⟨σ, σs, m0, rd, rp, hR, hC, hn, hm, hP, hH1, hH2, hQ, hY⟩, ⟨μ, hM, hPm⟩, hLX⟩ := hLI
  have hI := hgO.1
  obtain ⟨t0, t1, htx⟩ := hgO.2.2
  refine lv_aload_n (pc := 700) hx hb dL_law_700 rfl (lv_at hl 2 rfl) ?_
  refine lv_aload_n (pc := 701) hx hb dL_law_701 rfl (lv_at hl 3 rfl) ?_
  refine lv_iload_n (pc := 702) hx hb dL_law_702 rfl (lv_at hl 0 rfl) ?_
  refine lv_iconst (pc := 703) (v := zI 1) hx hb dL_law_703 rfl ?_
  refine zr_iadd (pc := 704) (d := i + 1) hx hb dL_law_704 rfl ?_
  refine zr_sld (pc := 705) hx hb hX hbl (Nat.not_le.mpr hbl) hS (by omega) (by omega) (by omega) dL_law_705 ?_
  refine lv_aload_n (pc := 706) hx hb dL_law_706 rfl (lv_at hl 3 rfl) ?_
  refine lv_iload_n (pc := 707) hx hb dL_law_707 rfl (lv_at hl 0 rfl) ?_
  refine lv_iconst (pc := 708) (v := zI 2) hx hb dL_law_708 rfl ?_
  refine zr_iadd (pc := 709) (d := i + 2) hx hb dL_law_709 rfl ?_
  refine zr_sld (pc := 710) hx hb hX hbl (Nat.not_le.mpr hbl) hS (by omega) (by omega) (by omega) dL_law_710 ?_
  refine lv_aload_n (pc := 711) hx hb dL_law_711 rfl (lv_at hl 3 rfl) ?_
  refine lv_iload_n (pc := 712) hx hb dL_law_712 rfl (lv_at hl 0 rfl) ?_
  refine lv_iconst (pc := 713) (v := zI 3) hx hb dL_law_713 rfl ?_
  refine zr_iadd (pc := 714) (d := i + 3) hx hb dL_law_714 rfl ?_
  refine zr_sld (pc := 715) hx hb hX hbl (Nat.not_le.mpr hbl) hS (by omega) (by omega) (by omega) dL_law_715 ?_
  refine zr_vi (pc := 716) (As := [.int (zI (xv xs (i + 1))), .int (zI (xv xs (i + 2))), .int (zI (xv xs (i + 3)))]) (rest := []) S (ct_X7_alteration l D cI cT ad σ g hR hI tl tx rd rp (xv xs (i + 1)) (xv xs (i + 2)) (xv xs (i + 3)) (xv_r xs (i + 1)) (xv_r xs (i + 2)) (xv_r xs (i + 3))) (cwV 3 hts gL_law_X7_alteration rfl rfl rfl (by decide +kernel) ⟨Nat.le_of_ble_eq_true rfl, Nat.le_of_ble_eq_true rfl⟩) zs0 hK ⟨hP, hY⟩ (zr_recv hK hY.1 rfl) rfl hl.1 rfl (Nat.le_of_ble_eq_true rfl) dL_law_716 ⟨Nat.le_of_ble_eq_true rfl, Nat.le_of_ble_eq_true rfl⟩ (fun r7 e7 => ?_)
  subst e7
  refine lv_aload_n (pc := 719) hx hb dL_law_719 rfl (lv_at hl 1 rfl) ?_
  refine lv_aload_n (pc := 720) hx hb dL_law_720 rfl (lv_at hl 3 rfl) ?_
  refine lv_iload_n (pc := 721) hx hb dL_law_721 rfl (lv_at hl 0 rfl) ?_
  refine lv_iconst (pc := 722) (v := zI 1) hx hb dL_law_722 rfl ?_
  refine zr_iadd (pc := 723) (d := i + 1) hx hb dL_law_723 rfl ?_
  refine zr_sld (pc := 724) hx hb hX hbl (Nat.not_le.mpr hbl) hS (by omega) (by omega) (by omega) dL_law_724 ?_
  refine lv_aload_n (pc := 725) hx hb dL_law_725 rfl (lv_at hl 3 rfl) ?_
  refine lv_iload_n (pc := 726) hx hb dL_law_726 rfl (lv_at hl 0 rfl) ?_
  refine lv_iconst (pc := 727) (v := zI 2) hx hb dL_law_727 rfl ?_
  refine zr_iadd (pc := 728) (d := i + 2) hx hb dL_law_728 rfl ?_
  refine zr_sld (pc := 729) hx hb hX hbl (Nat.not_le.mpr hbl) hS (by omega) (by omega) (by omega) dL_law_729 ?_
  refine lv_aload_n (pc := 730) hx hb dL_law_730 rfl (lv_at hl 3 rfl) ?_
  refine lv_iload_n (pc := 731) hx hb dL_law_731 rfl (lv_at hl 0 rfl) ?_
  refine lv_iconst (pc := 732) (v := zI 3) hx hb dL_law_732 rfl ?_
  refine zr_iadd (pc := 733) (d := i + 3) hx hb dL_law_733 rfl ?_
  refine zr_sld (pc := 734) hx hb hX hbl (Nat.not_le.mpr hbl) hS (by omega) (by omega) (by omega) dL_law_734 ?_
  refine zr_vwi (pc := 735) (As := [.int (zI (xv xs (i + 1))), .int (zI (xv xs (i + 2))), .int (zI (xv xs (i + 3)))]) (rest := [.int (zI (qAlt g (xv xs (i + 1)) (xv xs (i + 2)) (xv xs (i + 3))))]) S (ct_X8_alteration l D cI cT H.size am μ g n hs tl tx hM hI hG.2.1 (xv xs (i + 1)) (xv xs (i + 2)) (xv xs (i + 3)) (xv_r xs (i + 1)) (xv_r xs (i + 2)) (xv_r xs (i + 3))) (cwV 3 hts gL_law_X8_alteration rfl rfl rfl (by decide +kernel) ⟨Nat.le_of_ble_eq_true rfl, Nat.le_of_ble_eq_true rfl⟩) zs0 hK hPm (zr_recv hK (hPm 0 (by decide)) rfl) hS (fun q h => h.elim (fun ⟨k, k0, e⟩ => by rw [e]; exact hG.2.2.2.2 k k0) (fun z => Nat.le_trans hS.1 z)) rfl hl.1 rfl (Nat.le_of_ble_eq_true rfl) dL_law_735 ⟨Nat.le_of_ble_eq_true rfl, Nat.le_of_ble_eq_true rfl⟩ (fun r8 H2 locs2 hG8 hz2 hk2 hS2 => ?_)
  obtain ⟨e8, μ', hM', hPm'⟩ := hG8
  subst e8
  refine lv_icmp_eq (pc := 738) (tgt := 997) hx hb dL_law_738 (by decide) (fun _ => ?_) (fun z => absurd rfl z)
  exact next H2 locs2 ls ⟨g, n, hs, tl, tx, hgO, ⟨σ, σs, m0, rd, rp, hR, hC, hn, hm, cW_keep ⟨hP, hH1, hH2, hQ, hY⟩ hG hk2⟩, ⟨μ', hM', hPm'⟩, LX_k8 hLX hG hk2⟩ hS2 hl
set_option maxHeartbeats 4000000 in
theorem lwc_19 {p : Program} {l : Launch} {e : Env} {s : State} {m : MethodId} {below : List Frame} {meth : Method} {c : Code} {H : Heap} {locs : List Loc} {ls : Array Slot} {Q : State → Prop} {D : va_G} {cI cT : ClassId} {b L : Nat} {xs : Nat → Int32} {ad am : Nat → Nat} {i : Int}
    (S : CallFix p m c cL_law 4 s #[Value.ref b] wsL_law RL) (hK : zK D cI cT s) (hX : va_X b L xs s s.heap) (hbl : b < s.heap.size) (hL : (L : Int) ≤ 3072) (hG : LG ad am s.heap.size) (hLI : LI D cI cT ad am s.heap.size s H) (hS : va_S (fun q => s.heap.size ≤ q) s.heap H locs)
    (hl : lv_has ls 4 [(3, .int (zI i)), (2, .ref (am 0)), (1, .ref (ad 120)), (0, .ref b)]) (i0 : 0 ≤ i) (i1 : i + 6 ≤ (L : Int))
    (next : ∀ (H1 : Heap) (locs1 : List Loc) (ls1 : Array Slot), LI D cI cT ad am s.heap.size s H1 → va_S (fun q => s.heap.size ≤ q) s.heap H1 locs1 → lv_has ls1 4 [(3, .int (zI i)), (2, .ref (am 0)), (1, .ref (ad 120)), (0, .ref b)] → W p l e room_1 s m #[Value.ref b] below meth c H1 locs1 132 7992 Q (F0 m 997 ls1 [])) :
    W p l e room_1 s m #[Value.ref b] below meth c H locs 132 7992 Q (F0 m 743 ls []) := by
  have hx := S.1
  have hb := S.2.1
  have hts := S.2.2.2.2
  obtain ⟨g, n, hs, tl, tx, hgO, ⟨σ, σs, m0, rd, rp, hR, hC, hn, hm, hP, hH1, hH2, hQ, hY⟩, ⟨μ, hM, hPm⟩, hLX⟩ := hLI
  have hI := hgO.1
  obtain ⟨t0, t1, htx⟩ := hgO.2.2
  refine lv_aload_n (pc := 743) hx hb dL_law_743 rfl (lv_at hl 2 rfl) ?_
  refine lv_aload_n (pc := 744) hx hb dL_law_744 rfl (lv_at hl 3 rfl) ?_
  refine lv_iload_n (pc := 745) hx hb dL_law_745 rfl (lv_at hl 0 rfl) ?_
  refine lv_iconst (pc := 746) (v := zI 1) hx hb dL_law_746 rfl ?_
  refine zr_iadd (pc := 747) (d := i + 1) hx hb dL_law_747 rfl ?_
  refine zr_sld (pc := 748) hx hb hX hbl (Nat.not_le.mpr hbl) hS (by omega) (by omega) (by omega) dL_law_748 ?_
  refine lv_aload_n (pc := 749) hx hb dL_law_749 rfl (lv_at hl 3 rfl) ?_
  refine lv_iload_n (pc := 750) hx hb dL_law_750 rfl (lv_at hl 0 rfl) ?_
  refine lv_iconst (pc := 751) (v := zI 2) hx hb dL_law_751 rfl ?_
  refine zr_iadd (pc := 752) (d := i + 2) hx hb dL_law_752 rfl ?_
  refine zr_sld (pc := 753) hx hb hX hbl (Nat.not_le.mpr hbl) hS (by omega) (by omega) (by omega) dL_law_753 ?_
  refine zr_vi (pc := 754) (As := [.int (zI (xv xs (i + 1))), .int (zI (xv xs (i + 2)))]) (rest := []) S (ct_X7_actor l D cI cT ad σ g hR hI tl tx rd rp (xv xs (i + 1)) (xv xs (i + 2)) (xv_r xs (i + 1)) (xv_r xs (i + 2))) (cwV 2 hts gL_law_X7_actor rfl rfl rfl (by decide +kernel) ⟨Nat.le_of_ble_eq_true rfl, Nat.le_of_ble_eq_true rfl⟩) zs0 hK ⟨hP, hY⟩ (zr_recv hK hY.1 rfl) rfl hl.1 rfl (Nat.le_of_ble_eq_true rfl) dL_law_754 ⟨Nat.le_of_ble_eq_true rfl, Nat.le_of_ble_eq_true rfl⟩ (fun r7 e7 => ?_)
  subst e7
  refine lv_aload_n (pc := 757) hx hb dL_law_757 rfl (lv_at hl 1 rfl) ?_
  refine lv_aload_n (pc := 758) hx hb dL_law_758 rfl (lv_at hl 3 rfl) ?_
  refine lv_iload_n (pc := 759) hx hb dL_law_759 rfl (lv_at hl 0 rfl) ?_
  refine lv_iconst (pc := 760) (v := zI 1) hx hb dL_law_760 rfl ?_
  refine zr_iadd (pc := 761) (d := i + 1) hx hb dL_law_761 rfl ?_
  refine zr_sld (pc := 762) hx hb hX hbl (Nat.not_le.mpr hbl) hS (by omega) (by omega) (by omega) dL_law_762 ?_
  refine lv_aload_n (pc := 763) hx hb dL_law_763 rfl (lv_at hl 3 rfl) ?_
  refine lv_iload_n (pc := 764) hx hb dL_law_764 rfl (lv_at hl 0 rfl) ?_
  refine lv_iconst (pc := 765) (v := zI 2) hx hb dL_law_765 rfl ?_
  refine zr_iadd (pc := 766) (d := i + 2) hx hb dL_law_766 rfl ?_
  refine zr_sld (pc := 767) hx hb hX hbl (Nat.not_le.mpr hbl) hS (by omega) (by omega) (by omega) dL_law_767 ?_
  refine zr_vwi (pc := 768) (As := [.int (zI (xv xs (i + 1))), .int (zI (xv xs (i + 2)))]) (rest := [.int (zI (qAct g (xv xs (i + 1)) (xv xs (i + 2))))]) S (ct_X8_actor l D cI cT H.size am μ g n hs tl tx hM hI hG.2.1 (xv xs (i + 1)) (xv xs (i + 2)) (xv_r xs (i + 1)) (xv_r xs (i + 2))) (cwV 2 hts gL_law_X8_actor rfl rfl rfl (by decide +kernel) ⟨Nat.le_of_ble_eq_true rfl, Nat.le_of_ble_eq_true rfl⟩) zs0 hK hPm (zr_recv hK (hPm 0 (by decide)) rfl) hS (fun q h => h.elim (fun ⟨k, k0, e⟩ => by rw [e]; exact hG.2.2.2.2 k k0) (fun z => Nat.le_trans hS.1 z)) rfl hl.1 rfl (Nat.le_of_ble_eq_true rfl) dL_law_768 ⟨Nat.le_of_ble_eq_true rfl, Nat.le_of_ble_eq_true rfl⟩ (fun r8 H2 locs2 hG8 hz2 hk2 hS2 => ?_)
  obtain ⟨e8, μ', hM', hPm'⟩ := hG8
  subst e8
  refine lv_icmp_eq (pc := 771) (tgt := 997) hx hb dL_law_771 (by decide) (fun _ => ?_) (fun z => absurd rfl z)
  exact next H2 locs2 ls ⟨g, n, hs, tl, tx, hgO, ⟨σ, σs, m0, rd, rp, hR, hC, hn, hm, cW_keep ⟨hP, hH1, hH2, hQ, hY⟩ hG hk2⟩, ⟨μ', hM', hPm'⟩, LX_k8 hLX hG hk2⟩ hS2 hl
set_option maxHeartbeats 4000000 in
theorem lwc_20 {p : Program} {l : Launch} {e : Env} {s : State} {m : MethodId} {below : List Frame} {meth : Method} {c : Code} {H : Heap} {locs : List Loc} {ls : Array Slot} {Q : State → Prop} {D : va_G} {cI cT : ClassId} {b L : Nat} {xs : Nat → Int32} {ad am : Nat → Nat} {i : Int}
    (S : CallFix p m c cL_law 4 s #[Value.ref b] wsL_law RL) (hK : zK D cI cT s) (hX : va_X b L xs s s.heap) (hbl : b < s.heap.size) (hL : (L : Int) ≤ 3072) (hG : LG ad am s.heap.size) (hLI : LI D cI cT ad am s.heap.size s H) (hS : va_S (fun q => s.heap.size ≤ q) s.heap H locs)
    (hl : lv_has ls 4 [(3, .int (zI i)), (2, .ref (am 0)), (1, .ref (ad 120)), (0, .ref b)]) (i0 : 0 ≤ i) (i1 : i + 6 ≤ (L : Int))
    (next : ∀ (H1 : Heap) (locs1 : List Loc) (ls1 : Array Slot), LI D cI cT ad am s.heap.size s H1 → va_S (fun q => s.heap.size ≤ q) s.heap H1 locs1 → lv_has ls1 4 [(3, .int (zI i)), (2, .ref (am 0)), (1, .ref (ad 120)), (0, .ref b)] → W p l e room_1 s m #[Value.ref b] below meth c H1 locs1 132 7992 Q (F0 m 997 ls1 [])) :
    W p l e room_1 s m #[Value.ref b] below meth c H locs 132 7992 Q (F0 m 776 ls []) := by
  have hx := S.1
  have hb := S.2.1
  have hts := S.2.2.2.2
  obtain ⟨g, n, hs, tl, tx, hgO, ⟨σ, σs, m0, rd, rp, hR, hC, hn, hm, hP, hH1, hH2, hQ, hY⟩, ⟨μ, hM, hPm⟩, hLX⟩ := hLI
  have hI := hgO.1
  obtain ⟨t0, t1, htx⟩ := hgO.2.2
  refine lv_aload_n (pc := 776) hx hb dL_law_776 rfl (lv_at hl 2 rfl) ?_
  refine lv_aload_n (pc := 777) hx hb dL_law_777 rfl (lv_at hl 3 rfl) ?_
  refine lv_iload_n (pc := 778) hx hb dL_law_778 rfl (lv_at hl 0 rfl) ?_
  refine lv_iconst (pc := 779) (v := zI 1) hx hb dL_law_779 rfl ?_
  refine zr_iadd (pc := 780) (d := i + 1) hx hb dL_law_780 rfl ?_
  refine zr_sld (pc := 781) hx hb hX hbl (Nat.not_le.mpr hbl) hS (by omega) (by omega) (by omega) dL_law_781 ?_
  refine lv_aload_n (pc := 782) hx hb dL_law_782 rfl (lv_at hl 3 rfl) ?_
  refine lv_iload_n (pc := 783) hx hb dL_law_783 rfl (lv_at hl 0 rfl) ?_
  refine lv_iconst (pc := 784) (v := zI 2) hx hb dL_law_784 rfl ?_
  refine zr_iadd (pc := 785) (d := i + 2) hx hb dL_law_785 rfl ?_
  refine zr_sld (pc := 786) hx hb hX hbl (Nat.not_le.mpr hbl) hS (by omega) (by omega) (by omega) dL_law_786 ?_
  refine zr_vi (pc := 787) (As := [.int (zI (xv xs (i + 1))), .int (zI (xv xs (i + 2)))]) (rest := []) S (ct_X7_hired l D cI cT ad σ g hR hI tl tx rd rp (xv xs (i + 1)) (xv xs (i + 2)) (xv_r xs (i + 1)) (xv_r xs (i + 2))) (cwV 2 hts gL_law_X7_hired rfl rfl rfl (by decide +kernel) ⟨Nat.le_of_ble_eq_true rfl, Nat.le_of_ble_eq_true rfl⟩) zs0 hK ⟨hP, hY⟩ (zr_recv hK hY.1 rfl) rfl hl.1 rfl (Nat.le_of_ble_eq_true rfl) dL_law_787 ⟨Nat.le_of_ble_eq_true rfl, Nat.le_of_ble_eq_true rfl⟩ (fun r7 e7 => ?_)
  subst e7
  refine lv_aload_n (pc := 790) hx hb dL_law_790 rfl (lv_at hl 1 rfl) ?_
  refine lv_aload_n (pc := 791) hx hb dL_law_791 rfl (lv_at hl 3 rfl) ?_
  refine lv_iload_n (pc := 792) hx hb dL_law_792 rfl (lv_at hl 0 rfl) ?_
  refine lv_iconst (pc := 793) (v := zI 1) hx hb dL_law_793 rfl ?_
  refine zr_iadd (pc := 794) (d := i + 1) hx hb dL_law_794 rfl ?_
  refine zr_sld (pc := 795) hx hb hX hbl (Nat.not_le.mpr hbl) hS (by omega) (by omega) (by omega) dL_law_795 ?_
  refine lv_aload_n (pc := 796) hx hb dL_law_796 rfl (lv_at hl 3 rfl) ?_
  refine lv_iload_n (pc := 797) hx hb dL_law_797 rfl (lv_at hl 0 rfl) ?_
  refine lv_iconst (pc := 798) (v := zI 2) hx hb dL_law_798 rfl ?_
  refine zr_iadd (pc := 799) (d := i + 2) hx hb dL_law_799 rfl ?_
  refine zr_sld (pc := 800) hx hb hX hbl (Nat.not_le.mpr hbl) hS (by omega) (by omega) (by omega) dL_law_800 ?_
  refine zr_vwi (pc := 801) (As := [.int (zI (xv xs (i + 1))), .int (zI (xv xs (i + 2)))]) (rest := [.int (zI (qHir g (xv xs (i + 1)) (xv xs (i + 2))))]) S (ct_X8_hired l D cI cT H.size am μ g n hs tl tx hM hI hG.2.1 (xv xs (i + 1)) (xv xs (i + 2)) (xv_r xs (i + 1)) (xv_r xs (i + 2))) (cwV 2 hts gL_law_X8_hired rfl rfl rfl (by decide +kernel) ⟨Nat.le_of_ble_eq_true rfl, Nat.le_of_ble_eq_true rfl⟩) zs0 hK hPm (zr_recv hK (hPm 0 (by decide)) rfl) hS (fun q h => h.elim (fun ⟨k, k0, e⟩ => by rw [e]; exact hG.2.2.2.2 k k0) (fun z => Nat.le_trans hS.1 z)) rfl hl.1 rfl (Nat.le_of_ble_eq_true rfl) dL_law_801 ⟨Nat.le_of_ble_eq_true rfl, Nat.le_of_ble_eq_true rfl⟩ (fun r8 H2 locs2 hG8 hz2 hk2 hS2 => ?_)
  obtain ⟨e8, μ', hM', hPm'⟩ := hG8
  subst e8
  refine lv_icmp_eq (pc := 804) (tgt := 997) hx hb dL_law_804 (by decide) (fun _ => ?_) (fun z => absurd rfl z)
  exact next H2 locs2 ls ⟨g, n, hs, tl, tx, hgO, ⟨σ, σs, m0, rd, rp, hR, hC, hn, hm, cW_keep ⟨hP, hH1, hH2, hQ, hY⟩ hG hk2⟩, ⟨μ', hM', hPm'⟩, LX_k8 hLX hG hk2⟩ hS2 hl
set_option maxHeartbeats 4000000 in
theorem lwc_21 {p : Program} {l : Launch} {e : Env} {s : State} {m : MethodId} {below : List Frame} {meth : Method} {c : Code} {H : Heap} {locs : List Loc} {ls : Array Slot} {Q : State → Prop} {D : va_G} {cI cT : ClassId} {b L : Nat} {xs : Nat → Int32} {ad am : Nat → Nat} {i : Int}
    (S : CallFix p m c cL_law 4 s #[Value.ref b] wsL_law RL) (hK : zK D cI cT s) (hX : va_X b L xs s s.heap) (hbl : b < s.heap.size) (hL : (L : Int) ≤ 3072) (hG : LG ad am s.heap.size) (hLI : LI D cI cT ad am s.heap.size s H) (hS : va_S (fun q => s.heap.size ≤ q) s.heap H locs)
    (hl : lv_has ls 4 [(3, .int (zI i)), (2, .ref (am 0)), (1, .ref (ad 120)), (0, .ref b)]) (i0 : 0 ≤ i) (i1 : i + 6 ≤ (L : Int))
    (next : ∀ (H1 : Heap) (locs1 : List Loc) (ls1 : Array Slot), LI D cI cT ad am s.heap.size s H1 → va_S (fun q => s.heap.size ≤ q) s.heap H1 locs1 → lv_has ls1 4 [(3, .int (zI i)), (2, .ref (am 0)), (1, .ref (ad 120)), (0, .ref b)] → W p l e room_1 s m #[Value.ref b] below meth c H1 locs1 132 7992 Q (F0 m 997 ls1 [])) :
    W p l e room_1 s m #[Value.ref b] below meth c H locs 132 7992 Q (F0 m 809 ls []) := by
  have hx := S.1
  have hb := S.2.1
  have hts := S.2.2.2.2
  obtain ⟨g, n, hs, tl, tx, hgO, ⟨σ, σs, m0, rd, rp, hR, hC, hn, hm, hP, hH1, hH2, hQ, hY⟩, ⟨μ, hM, hPm⟩, hLX⟩ := hLI
  have hI := hgO.1
  obtain ⟨t0, t1, htx⟩ := hgO.2.2
  refine lv_aload_n (pc := 809) hx hb dL_law_809 rfl (lv_at hl 2 rfl) ?_
  refine lv_aload_n (pc := 810) hx hb dL_law_810 rfl (lv_at hl 3 rfl) ?_
  refine lv_iload_n (pc := 811) hx hb dL_law_811 rfl (lv_at hl 0 rfl) ?_
  refine lv_iconst (pc := 812) (v := zI 1) hx hb dL_law_812 rfl ?_
  refine zr_iadd (pc := 813) (d := i + 1) hx hb dL_law_813 rfl ?_
  refine zr_sld (pc := 814) hx hb hX hbl (Nat.not_le.mpr hbl) hS (by omega) (by omega) (by omega) dL_law_814 ?_
  refine zr_vi (pc := 815) (As := [.int (zI (xv xs (i + 1)))]) (rest := []) S (ct_X7_problems l D cI cT ad σ g hR hI tl tx rd rp (xv xs (i + 1)) (xv_r xs (i + 1))) (cwV 1 hts gL_law_X7_problems rfl rfl rfl (by decide +kernel) ⟨Nat.le_of_ble_eq_true rfl, Nat.le_of_ble_eq_true rfl⟩) zs0 hK ⟨hP, hY⟩ (zr_recv hK hY.1 rfl) rfl hl.1 rfl (Nat.le_of_ble_eq_true rfl) dL_law_815 ⟨Nat.le_of_ble_eq_true rfl, Nat.le_of_ble_eq_true rfl⟩ (fun r7 e7 => ?_)
  subst e7
  refine lv_aload_n (pc := 818) hx hb dL_law_818 rfl (lv_at hl 1 rfl) ?_
  refine lv_aload_n (pc := 819) hx hb dL_law_819 rfl (lv_at hl 3 rfl) ?_
  refine lv_iload_n (pc := 820) hx hb dL_law_820 rfl (lv_at hl 0 rfl) ?_
  refine lv_iconst (pc := 821) (v := zI 1) hx hb dL_law_821 rfl ?_
  refine zr_iadd (pc := 822) (d := i + 1) hx hb dL_law_822 rfl ?_
  refine zr_sld (pc := 823) hx hb hX hbl (Nat.not_le.mpr hbl) hS (by omega) (by omega) (by omega) dL_law_823 ?_
  refine zr_vwi (pc := 824) (As := [.int (zI (xv xs (i + 1)))]) (rest := [.int (zI (qPrb g (xv xs (i + 1))))]) S (ct_X8_problems l D cI cT H.size am μ g n hs tl tx hM hI hG.2.1 (xv xs (i + 1)) (xv_r xs (i + 1))) (cwV 1 hts gL_law_X8_problems rfl rfl rfl (by decide +kernel) ⟨Nat.le_of_ble_eq_true rfl, Nat.le_of_ble_eq_true rfl⟩) zs0 hK hPm (zr_recv hK (hPm 0 (by decide)) rfl) hS (fun q h => h.elim (fun ⟨k, k0, e⟩ => by rw [e]; exact hG.2.2.2.2 k k0) (fun z => Nat.le_trans hS.1 z)) rfl hl.1 rfl (Nat.le_of_ble_eq_true rfl) dL_law_824 ⟨Nat.le_of_ble_eq_true rfl, Nat.le_of_ble_eq_true rfl⟩ (fun r8 H2 locs2 hG8 hz2 hk2 hS2 => ?_)
  obtain ⟨e8, μ', hM', hPm'⟩ := hG8
  subst e8
  refine lv_icmp_eq (pc := 827) (tgt := 997) hx hb dL_law_827 (by decide) (fun _ => ?_) (fun z => absurd rfl z)
  exact next H2 locs2 ls ⟨g, n, hs, tl, tx, hgO, ⟨σ, σs, m0, rd, rp, hR, hC, hn, hm, cW_keep ⟨hP, hH1, hH2, hQ, hY⟩ hG hk2⟩, ⟨μ', hM', hPm'⟩, LX_k8 hLX hG hk2⟩ hS2 hl
set_option maxHeartbeats 4000000 in
theorem lwc_22 {p : Program} {l : Launch} {e : Env} {s : State} {m : MethodId} {below : List Frame} {meth : Method} {c : Code} {H : Heap} {locs : List Loc} {ls : Array Slot} {Q : State → Prop} {D : va_G} {cI cT : ClassId} {b L : Nat} {xs : Nat → Int32} {ad am : Nat → Nat} {i : Int}
    (S : CallFix p m c cL_law 4 s #[Value.ref b] wsL_law RL) (hK : zK D cI cT s) (hX : va_X b L xs s s.heap) (hbl : b < s.heap.size) (hL : (L : Int) ≤ 3072) (hG : LG ad am s.heap.size) (hLI : LI D cI cT ad am s.heap.size s H) (hS : va_S (fun q => s.heap.size ≤ q) s.heap H locs)
    (hl : lv_has ls 4 [(3, .int (zI i)), (2, .ref (am 0)), (1, .ref (ad 120)), (0, .ref b)]) (i0 : 0 ≤ i) (i1 : i + 6 ≤ (L : Int))
    (next : ∀ (H1 : Heap) (locs1 : List Loc) (ls1 : Array Slot), LI D cI cT ad am s.heap.size s H1 → va_S (fun q => s.heap.size ≤ q) s.heap H1 locs1 → lv_has ls1 4 [(3, .int (zI i)), (2, .ref (am 0)), (1, .ref (ad 120)), (0, .ref b)] → W p l e room_1 s m #[Value.ref b] below meth c H1 locs1 132 7992 Q (F0 m 997 ls1 [])) :
    W p l e room_1 s m #[Value.ref b] below meth c H locs 132 7992 Q (F0 m 832 ls []) := by
  have hx := S.1
  have hb := S.2.1
  have hts := S.2.2.2.2
  obtain ⟨g, n, hs, tl, tx, hgO, ⟨σ, σs, m0, rd, rp, hR, hC, hn, hm, hP, hH1, hH2, hQ, hY⟩, ⟨μ, hM, hPm⟩, hLX⟩ := hLI
  have hI := hgO.1
  obtain ⟨t0, t1, htx⟩ := hgO.2.2
  refine lv_aload_n (pc := 832) hx hb dL_law_832 rfl (lv_at hl 2 rfl) ?_
  refine lv_aload_n (pc := 833) hx hb dL_law_833 rfl (lv_at hl 3 rfl) ?_
  refine lv_iload_n (pc := 834) hx hb dL_law_834 rfl (lv_at hl 0 rfl) ?_
  refine lv_iconst (pc := 835) (v := zI 1) hx hb dL_law_835 rfl ?_
  refine zr_iadd (pc := 836) (d := i + 1) hx hb dL_law_836 rfl ?_
  refine zr_sld (pc := 837) hx hb hX hbl (Nat.not_le.mpr hbl) hS (by omega) (by omega) (by omega) dL_law_837 ?_
  refine lv_aload_n (pc := 838) hx hb dL_law_838 rfl (lv_at hl 3 rfl) ?_
  refine lv_iload_n (pc := 839) hx hb dL_law_839 rfl (lv_at hl 0 rfl) ?_
  refine lv_iconst (pc := 840) (v := zI 2) hx hb dL_law_840 rfl ?_
  refine zr_iadd (pc := 841) (d := i + 2) hx hb dL_law_841 rfl ?_
  refine zr_sld (pc := 842) hx hb hX hbl (Nat.not_le.mpr hbl) hS (by omega) (by omega) (by omega) dL_law_842 ?_
  refine zr_vi (pc := 843) (As := [.int (zI (xv xs (i + 1))), .int (zI (xv xs (i + 2)))]) (rest := []) S (ct_X7_misfit l D cI cT ad σ g hR hI tl tx rd rp (xv xs (i + 1)) (xv xs (i + 2)) (xv_r xs (i + 1)) (xv_r xs (i + 2))) (cwV 2 hts gL_law_X7_misfit rfl rfl rfl (by decide +kernel) ⟨Nat.le_of_ble_eq_true rfl, Nat.le_of_ble_eq_true rfl⟩) zs0 hK ⟨hP, hY⟩ (zr_recv hK hY.1 rfl) rfl hl.1 rfl (Nat.le_of_ble_eq_true rfl) dL_law_843 ⟨Nat.le_of_ble_eq_true rfl, Nat.le_of_ble_eq_true rfl⟩ (fun r7 e7 => ?_)
  subst e7
  refine lv_aload_n (pc := 846) hx hb dL_law_846 rfl (lv_at hl 1 rfl) ?_
  refine lv_aload_n (pc := 847) hx hb dL_law_847 rfl (lv_at hl 3 rfl) ?_
  refine lv_iload_n (pc := 848) hx hb dL_law_848 rfl (lv_at hl 0 rfl) ?_
  refine lv_iconst (pc := 849) (v := zI 1) hx hb dL_law_849 rfl ?_
  refine zr_iadd (pc := 850) (d := i + 1) hx hb dL_law_850 rfl ?_
  refine zr_sld (pc := 851) hx hb hX hbl (Nat.not_le.mpr hbl) hS (by omega) (by omega) (by omega) dL_law_851 ?_
  refine lv_aload_n (pc := 852) hx hb dL_law_852 rfl (lv_at hl 3 rfl) ?_
  refine lv_iload_n (pc := 853) hx hb dL_law_853 rfl (lv_at hl 0 rfl) ?_
  refine lv_iconst (pc := 854) (v := zI 2) hx hb dL_law_854 rfl ?_
  refine zr_iadd (pc := 855) (d := i + 2) hx hb dL_law_855 rfl ?_
  refine zr_sld (pc := 856) hx hb hX hbl (Nat.not_le.mpr hbl) hS (by omega) (by omega) (by omega) dL_law_856 ?_
  refine zr_vwi (pc := 857) (As := [.int (zI (xv xs (i + 1))), .int (zI (xv xs (i + 2)))]) (rest := [.int (zI (qMis g (xv xs (i + 1)) (xv xs (i + 2))))]) S (ct_X8_misfit l D cI cT H.size am μ g n hs tl tx hM hI hG.2.1 (xv xs (i + 1)) (xv xs (i + 2)) (xv_r xs (i + 1)) (xv_r xs (i + 2))) (cwV 2 hts gL_law_X8_misfit rfl rfl rfl (by decide +kernel) ⟨Nat.le_of_ble_eq_true rfl, Nat.le_of_ble_eq_true rfl⟩) zs0 hK hPm (zr_recv hK (hPm 0 (by decide)) rfl) hS (fun q h => h.elim (fun ⟨k, k0, e⟩ => by rw [e]; exact hG.2.2.2.2 k k0) (fun z => Nat.le_trans hS.1 z)) rfl hl.1 rfl (Nat.le_of_ble_eq_true rfl) dL_law_857 ⟨Nat.le_of_ble_eq_true rfl, Nat.le_of_ble_eq_true rfl⟩ (fun r8 H2 locs2 hG8 hz2 hk2 hS2 => ?_)
  obtain ⟨e8, μ', hM', hPm'⟩ := hG8
  subst e8
  refine lv_icmp_eq (pc := 860) (tgt := 997) hx hb dL_law_860 (by decide) (fun _ => ?_) (fun z => absurd rfl z)
  exact next H2 locs2 ls ⟨g, n, hs, tl, tx, hgO, ⟨σ, σs, m0, rd, rp, hR, hC, hn, hm, cW_keep ⟨hP, hH1, hH2, hQ, hY⟩ hG hk2⟩, ⟨μ', hM', hPm'⟩, LX_k8 hLX hG hk2⟩ hS2 hl
set_option maxHeartbeats 4000000 in
theorem lwc_23 {p : Program} {l : Launch} {e : Env} {s : State} {m : MethodId} {below : List Frame} {meth : Method} {c : Code} {H : Heap} {locs : List Loc} {ls : Array Slot} {Q : State → Prop} {D : va_G} {cI cT : ClassId} {b L : Nat} {xs : Nat → Int32} {ad am : Nat → Nat} {i : Int}
    (S : CallFix p m c cL_law 4 s #[Value.ref b] wsL_law RL) (hK : zK D cI cT s) (hX : va_X b L xs s s.heap) (hbl : b < s.heap.size) (hL : (L : Int) ≤ 3072) (hG : LG ad am s.heap.size) (hLI : LI D cI cT ad am s.heap.size s H) (hS : va_S (fun q => s.heap.size ≤ q) s.heap H locs)
    (hl : lv_has ls 4 [(3, .int (zI i)), (2, .ref (am 0)), (1, .ref (ad 120)), (0, .ref b)]) (i0 : 0 ≤ i) (i1 : i + 6 ≤ (L : Int))
    (next : ∀ (H1 : Heap) (locs1 : List Loc) (ls1 : Array Slot), LI D cI cT ad am s.heap.size s H1 → va_S (fun q => s.heap.size ≤ q) s.heap H1 locs1 → lv_has ls1 4 [(3, .int (zI i)), (2, .ref (am 0)), (1, .ref (ad 120)), (0, .ref b)] → W p l e room_1 s m #[Value.ref b] below meth c H1 locs1 132 7992 Q (F0 m 997 ls1 [])) :
    W p l e room_1 s m #[Value.ref b] below meth c H locs 132 7992 Q (F0 m 865 ls []) := by
  have hx := S.1
  have hb := S.2.1
  have hts := S.2.2.2.2
  obtain ⟨g, n, hs, tl, tx, hgO, ⟨σ, σs, m0, rd, rp, hR, hC, hn, hm, hP, hH1, hH2, hQ, hY⟩, ⟨μ, hM, hPm⟩, hLX⟩ := hLI
  have hI := hgO.1
  obtain ⟨t0, t1, htx⟩ := hgO.2.2
  refine lv_aload_n (pc := 865) hx hb dL_law_865 rfl (lv_at hl 2 rfl) ?_
  refine lv_aload_n (pc := 866) hx hb dL_law_866 rfl (lv_at hl 3 rfl) ?_
  refine lv_iload_n (pc := 867) hx hb dL_law_867 rfl (lv_at hl 0 rfl) ?_
  refine lv_iconst (pc := 868) (v := zI 1) hx hb dL_law_868 rfl ?_
  refine zr_iadd (pc := 869) (d := i + 1) hx hb dL_law_869 rfl ?_
  refine zr_sld (pc := 870) hx hb hX hbl (Nat.not_le.mpr hbl) hS (by omega) (by omega) (by omega) dL_law_870 ?_
  refine lv_aload_n (pc := 871) hx hb dL_law_871 rfl (lv_at hl 3 rfl) ?_
  refine lv_iload_n (pc := 872) hx hb dL_law_872 rfl (lv_at hl 0 rfl) ?_
  refine lv_iconst (pc := 873) (v := zI 2) hx hb dL_law_873 rfl ?_
  refine zr_iadd (pc := 874) (d := i + 2) hx hb dL_law_874 rfl ?_
  refine zr_sld (pc := 875) hx hb hX hbl (Nat.not_le.mpr hbl) hS (by omega) (by omega) (by omega) dL_law_875 ?_
  refine zr_vi (pc := 876) (As := [.int (zI (xv xs (i + 1))), .int (zI (xv xs (i + 2)))]) (rest := []) S (ct_X7_leastAlteration l D cI cT ad σ g hR hI tl tx rd rp (xv xs (i + 1)) (xv xs (i + 2)) (xv_r xs (i + 1)) (xv_r xs (i + 2))) (cwV 2 hts gL_law_X7_leastAlteration rfl rfl rfl (by decide +kernel) ⟨Nat.le_of_ble_eq_true rfl, Nat.le_of_ble_eq_true rfl⟩) zs0 hK ⟨hP, hY⟩ (zr_recv hK hY.1 rfl) rfl hl.1 rfl (Nat.le_of_ble_eq_true rfl) dL_law_876 ⟨Nat.le_of_ble_eq_true rfl, Nat.le_of_ble_eq_true rfl⟩ (fun r7 e7 => ?_)
  subst e7
  refine lv_aload_n (pc := 879) hx hb dL_law_879 rfl (lv_at hl 1 rfl) ?_
  refine lv_aload_n (pc := 880) hx hb dL_law_880 rfl (lv_at hl 3 rfl) ?_
  refine lv_iload_n (pc := 881) hx hb dL_law_881 rfl (lv_at hl 0 rfl) ?_
  refine lv_iconst (pc := 882) (v := zI 1) hx hb dL_law_882 rfl ?_
  refine zr_iadd (pc := 883) (d := i + 1) hx hb dL_law_883 rfl ?_
  refine zr_sld (pc := 884) hx hb hX hbl (Nat.not_le.mpr hbl) hS (by omega) (by omega) (by omega) dL_law_884 ?_
  refine lv_aload_n (pc := 885) hx hb dL_law_885 rfl (lv_at hl 3 rfl) ?_
  refine lv_iload_n (pc := 886) hx hb dL_law_886 rfl (lv_at hl 0 rfl) ?_
  refine lv_iconst (pc := 887) (v := zI 2) hx hb dL_law_887 rfl ?_
  refine zr_iadd (pc := 888) (d := i + 2) hx hb dL_law_888 rfl ?_
  refine zr_sld (pc := 889) hx hb hX hbl (Nat.not_le.mpr hbl) hS (by omega) (by omega) (by omega) dL_law_889 ?_
  refine zr_vwi (pc := 890) (As := [.int (zI (xv xs (i + 1))), .int (zI (xv xs (i + 2)))]) (rest := [.int (zI (qLst g (xv xs (i + 1)) (xv xs (i + 2))))]) S (ct_X8_leastAlteration l D cI cT H.size am μ g n hs tl tx hM hI hG.2.1 (xv xs (i + 1)) (xv xs (i + 2)) (xv_r xs (i + 1)) (xv_r xs (i + 2))) (cwV 2 hts gL_law_X8_leastAlteration rfl rfl rfl (by decide +kernel) ⟨Nat.le_of_ble_eq_true rfl, Nat.le_of_ble_eq_true rfl⟩) zs0 hK hPm (zr_recv hK (hPm 0 (by decide)) rfl) hS (fun q h => h.elim (fun ⟨k, k0, e⟩ => by rw [e]; exact hG.2.2.2.2 k k0) (fun z => Nat.le_trans hS.1 z)) rfl hl.1 rfl (Nat.le_of_ble_eq_true rfl) dL_law_890 ⟨Nat.le_of_ble_eq_true rfl, Nat.le_of_ble_eq_true rfl⟩ (fun r8 H2 locs2 hG8 hz2 hk2 hS2 => ?_)
  obtain ⟨e8, μ', hM', hPm'⟩ := hG8
  subst e8
  refine lv_icmp_eq (pc := 893) (tgt := 997) hx hb dL_law_893 (by decide) (fun _ => ?_) (fun z => absurd rfl z)
  exact next H2 locs2 ls ⟨g, n, hs, tl, tx, hgO, ⟨σ, σs, m0, rd, rp, hR, hC, hn, hm, cW_keep ⟨hP, hH1, hH2, hQ, hY⟩ hG hk2⟩, ⟨μ', hM', hPm'⟩, LX_k8 hLX hG hk2⟩ hS2 hl
set_option maxHeartbeats 4000000 in
theorem lwc_24 {p : Program} {l : Launch} {e : Env} {s : State} {m : MethodId} {below : List Frame} {meth : Method} {c : Code} {H : Heap} {locs : List Loc} {ls : Array Slot} {Q : State → Prop} {D : va_G} {cI cT : ClassId} {b L : Nat} {xs : Nat → Int32} {ad am : Nat → Nat} {i : Int}
    (S : CallFix p m c cL_law 4 s #[Value.ref b] wsL_law RL) (hK : zK D cI cT s) (hX : va_X b L xs s s.heap) (hbl : b < s.heap.size) (hL : (L : Int) ≤ 3072) (hG : LG ad am s.heap.size) (hLI : LI D cI cT ad am s.heap.size s H) (hS : va_S (fun q => s.heap.size ≤ q) s.heap H locs)
    (hl : lv_has ls 4 [(3, .int (zI i)), (2, .ref (am 0)), (1, .ref (ad 120)), (0, .ref b)]) (i0 : 0 ≤ i) (i1 : i + 6 ≤ (L : Int))
    (next : ∀ (H1 : Heap) (locs1 : List Loc) (ls1 : Array Slot), LI D cI cT ad am s.heap.size s H1 → va_S (fun q => s.heap.size ≤ q) s.heap H1 locs1 → lv_has ls1 4 [(3, .int (zI i)), (2, .ref (am 0)), (1, .ref (ad 120)), (0, .ref b)] → W p l e room_1 s m #[Value.ref b] below meth c H1 locs1 132 7992 Q (F0 m 997 ls1 [])) :
    W p l e room_1 s m #[Value.ref b] below meth c H locs 132 7992 Q (F0 m 898 ls []) := by
  have hx := S.1
  have hb := S.2.1
  have hts := S.2.2.2.2
  obtain ⟨g, n, hs, tl, tx, hgO, ⟨σ, σs, m0, rd, rp, hR, hC, hn, hm, hP, hH1, hH2, hQ, hY⟩, ⟨μ, hM, hPm⟩, hLX⟩ := hLI
  have hI := hgO.1
  obtain ⟨t0, t1, htx⟩ := hgO.2.2
  refine lv_aload_n (pc := 898) hx hb dL_law_898 rfl (lv_at hl 2 rfl) ?_
  refine lv_aload_n (pc := 899) hx hb dL_law_899 rfl (lv_at hl 3 rfl) ?_
  refine lv_iload_n (pc := 900) hx hb dL_law_900 rfl (lv_at hl 0 rfl) ?_
  refine lv_iconst (pc := 901) (v := zI 1) hx hb dL_law_901 rfl ?_
  refine zr_iadd (pc := 902) (d := i + 1) hx hb dL_law_902 rfl ?_
  refine zr_sld (pc := 903) hx hb hX hbl (Nat.not_le.mpr hbl) hS (by omega) (by omega) (by omega) dL_law_903 ?_
  refine lv_aload_n (pc := 904) hx hb dL_law_904 rfl (lv_at hl 3 rfl) ?_
  refine lv_iload_n (pc := 905) hx hb dL_law_905 rfl (lv_at hl 0 rfl) ?_
  refine lv_iconst (pc := 906) (v := zI 2) hx hb dL_law_906 rfl ?_
  refine zr_iadd (pc := 907) (d := i + 2) hx hb dL_law_907 rfl ?_
  refine zr_sld (pc := 908) hx hb hX hbl (Nat.not_le.mpr hbl) hS (by omega) (by omega) (by omega) dL_law_908 ?_
  refine zr_vi (pc := 909) (As := [.int (zI (xv xs (i + 1))), .int (zI (xv xs (i + 2)))]) (rest := []) S (ct_X7_costumeFor l D cI cT ad σ g hR hI tl tx rd rp (xv xs (i + 1)) (xv xs (i + 2)) (xv_r xs (i + 1)) (xv_r xs (i + 2))) (cwV 2 hts gL_law_X7_costumeFor rfl rfl rfl (by decide +kernel) ⟨Nat.le_of_ble_eq_true rfl, Nat.le_of_ble_eq_true rfl⟩) zs0 hK ⟨hP, hY⟩ (zr_recv hK hY.1 rfl) rfl hl.1 rfl (Nat.le_of_ble_eq_true rfl) dL_law_909 ⟨Nat.le_of_ble_eq_true rfl, Nat.le_of_ble_eq_true rfl⟩ (fun r7 e7 => ?_)
  subst e7
  refine lv_aload_n (pc := 912) hx hb dL_law_912 rfl (lv_at hl 1 rfl) ?_
  refine lv_aload_n (pc := 913) hx hb dL_law_913 rfl (lv_at hl 3 rfl) ?_
  refine lv_iload_n (pc := 914) hx hb dL_law_914 rfl (lv_at hl 0 rfl) ?_
  refine lv_iconst (pc := 915) (v := zI 1) hx hb dL_law_915 rfl ?_
  refine zr_iadd (pc := 916) (d := i + 1) hx hb dL_law_916 rfl ?_
  refine zr_sld (pc := 917) hx hb hX hbl (Nat.not_le.mpr hbl) hS (by omega) (by omega) (by omega) dL_law_917 ?_
  refine lv_aload_n (pc := 918) hx hb dL_law_918 rfl (lv_at hl 3 rfl) ?_
  refine lv_iload_n (pc := 919) hx hb dL_law_919 rfl (lv_at hl 0 rfl) ?_
  refine lv_iconst (pc := 920) (v := zI 2) hx hb dL_law_920 rfl ?_
  refine zr_iadd (pc := 921) (d := i + 2) hx hb dL_law_921 rfl ?_
  refine zr_sld (pc := 922) hx hb hX hbl (Nat.not_le.mpr hbl) hS (by omega) (by omega) (by omega) dL_law_922 ?_
  refine zr_vwi (pc := 923) (As := [.int (zI (xv xs (i + 1))), .int (zI (xv xs (i + 2)))]) (rest := [.int (zI (qFor g (xv xs (i + 1)) (xv xs (i + 2))))]) S (ct_X8_costumeFor l D cI cT H.size am μ g n hs tl tx hM hI hG.2.1 (xv xs (i + 1)) (xv xs (i + 2)) (xv_r xs (i + 1)) (xv_r xs (i + 2))) (cwV 2 hts gL_law_X8_costumeFor rfl rfl rfl (by decide +kernel) ⟨Nat.le_of_ble_eq_true rfl, Nat.le_of_ble_eq_true rfl⟩) zs0 hK hPm (zr_recv hK (hPm 0 (by decide)) rfl) hS (fun q h => h.elim (fun ⟨k, k0, e⟩ => by rw [e]; exact hG.2.2.2.2 k k0) (fun z => Nat.le_trans hS.1 z)) rfl hl.1 rfl (Nat.le_of_ble_eq_true rfl) dL_law_923 ⟨Nat.le_of_ble_eq_true rfl, Nat.le_of_ble_eq_true rfl⟩ (fun r8 H2 locs2 hG8 hz2 hk2 hS2 => ?_)
  obtain ⟨e8, μ', hM', hPm'⟩ := hG8
  subst e8
  refine lv_icmp_eq (pc := 926) (tgt := 997) hx hb dL_law_926 (by decide) (fun _ => ?_) (fun z => absurd rfl z)
  exact next H2 locs2 ls ⟨g, n, hs, tl, tx, hgO, ⟨σ, σs, m0, rd, rp, hR, hC, hn, hm, cW_keep ⟨hP, hH1, hH2, hQ, hY⟩ hG hk2⟩, ⟨μ', hM', hPm'⟩, LX_k8 hLX hG hk2⟩ hS2 hl
set_option maxHeartbeats 4000000 in
theorem lwc_25 {p : Program} {l : Launch} {e : Env} {s : State} {m : MethodId} {below : List Frame} {meth : Method} {c : Code} {H : Heap} {locs : List Loc} {ls : Array Slot} {Q : State → Prop} {D : va_G} {cI cT : ClassId} {b L : Nat} {xs : Nat → Int32} {ad am : Nat → Nat} {i : Int}
    (S : CallFix p m c cL_law 4 s #[Value.ref b] wsL_law RL) (hK : zK D cI cT s) (hX : va_X b L xs s s.heap) (hbl : b < s.heap.size) (hL : (L : Int) ≤ 3072) (hG : LG ad am s.heap.size) (hLI : LI D cI cT ad am s.heap.size s H) (hS : va_S (fun q => s.heap.size ≤ q) s.heap H locs)
    (hl : lv_has ls 4 [(3, .int (zI i)), (2, .ref (am 0)), (1, .ref (ad 120)), (0, .ref b)]) (i0 : 0 ≤ i) (i1 : i + 6 ≤ (L : Int))
    (next : ∀ (H1 : Heap) (locs1 : List Loc) (ls1 : Array Slot), LI D cI cT ad am s.heap.size s H1 → va_S (fun q => s.heap.size ≤ q) s.heap H1 locs1 → lv_has ls1 4 [(3, .int (zI i)), (2, .ref (am 0)), (1, .ref (ad 120)), (0, .ref b)] → W p l e room_1 s m #[Value.ref b] below meth c H1 locs1 132 7992 Q (F0 m 997 ls1 [])) :
    W p l e room_1 s m #[Value.ref b] below meth c H locs 132 7992 Q (F0 m 931 ls []) := by
  have hx := S.1
  have hb := S.2.1
  have hts := S.2.2.2.2
  obtain ⟨g, n, hs, tl, tx, hgO, ⟨σ, σs, m0, rd, rp, hR, hC, hn, hm, hP, hH1, hH2, hQ, hY⟩, ⟨μ, hM, hPm⟩, hLX⟩ := hLI
  have hI := hgO.1
  obtain ⟨t0, t1, htx⟩ := hgO.2.2
  refine lv_aload_n (pc := 931) hx hb dL_law_931 rfl (lv_at hl 2 rfl) ?_
  refine lv_aload_n (pc := 932) hx hb dL_law_932 rfl (lv_at hl 3 rfl) ?_
  refine lv_iload_n (pc := 933) hx hb dL_law_933 rfl (lv_at hl 0 rfl) ?_
  refine lv_iconst (pc := 934) (v := zI 1) hx hb dL_law_934 rfl ?_
  refine zr_iadd (pc := 935) (d := i + 1) hx hb dL_law_935 rfl ?_
  refine zr_sld (pc := 936) hx hb hX hbl (Nat.not_le.mpr hbl) hS (by omega) (by omega) (by omega) dL_law_936 ?_
  refine lv_aload_n (pc := 937) hx hb dL_law_937 rfl (lv_at hl 3 rfl) ?_
  refine lv_iload_n (pc := 938) hx hb dL_law_938 rfl (lv_at hl 0 rfl) ?_
  refine lv_iconst (pc := 939) (v := zI 2) hx hb dL_law_939 rfl ?_
  refine zr_iadd (pc := 940) (d := i + 2) hx hb dL_law_940 rfl ?_
  refine zr_sld (pc := 941) hx hb hX hbl (Nat.not_le.mpr hbl) hS (by omega) (by omega) (by omega) dL_law_941 ?_
  refine zr_vi (pc := 942) (As := [.int (zI (xv xs (i + 1))), .int (zI (xv xs (i + 2)))]) (rest := []) S (ct_X7_freeFrom l D cI cT ad σ g hR hI tl tx rd rp (xv xs (i + 1)) (xv xs (i + 2)) (xv_r xs (i + 1)) (xv_r xs (i + 2))) (cwV 2 hts gL_law_X7_freeFrom rfl rfl rfl (by decide +kernel) ⟨Nat.le_of_ble_eq_true rfl, Nat.le_of_ble_eq_true rfl⟩) zs0 hK ⟨hP, hY⟩ (zr_recv hK hY.1 rfl) rfl hl.1 rfl (Nat.le_of_ble_eq_true rfl) dL_law_942 ⟨Nat.le_of_ble_eq_true rfl, Nat.le_of_ble_eq_true rfl⟩ (fun r7 e7 => ?_)
  subst e7
  refine lv_aload_n (pc := 945) hx hb dL_law_945 rfl (lv_at hl 1 rfl) ?_
  refine lv_aload_n (pc := 946) hx hb dL_law_946 rfl (lv_at hl 3 rfl) ?_
  refine lv_iload_n (pc := 947) hx hb dL_law_947 rfl (lv_at hl 0 rfl) ?_
  refine lv_iconst (pc := 948) (v := zI 1) hx hb dL_law_948 rfl ?_
  refine zr_iadd (pc := 949) (d := i + 1) hx hb dL_law_949 rfl ?_
  refine zr_sld (pc := 950) hx hb hX hbl (Nat.not_le.mpr hbl) hS (by omega) (by omega) (by omega) dL_law_950 ?_
  refine lv_aload_n (pc := 951) hx hb dL_law_951 rfl (lv_at hl 3 rfl) ?_
  refine lv_iload_n (pc := 952) hx hb dL_law_952 rfl (lv_at hl 0 rfl) ?_
  refine lv_iconst (pc := 953) (v := zI 2) hx hb dL_law_953 rfl ?_
  refine zr_iadd (pc := 954) (d := i + 2) hx hb dL_law_954 rfl ?_
  refine zr_sld (pc := 955) hx hb hX hbl (Nat.not_le.mpr hbl) hS (by omega) (by omega) (by omega) dL_law_955 ?_
  refine zr_vwi (pc := 956) (As := [.int (zI (xv xs (i + 1))), .int (zI (xv xs (i + 2)))]) (rest := [.int (zI (qFre g (xv xs (i + 1)) (xv xs (i + 2))))]) S (ct_X8_freeFrom l D cI cT H.size am μ g n hs tl tx hM hI hG.2.1 (xv xs (i + 1)) (xv xs (i + 2)) (xv_r xs (i + 1)) (xv_r xs (i + 2))) (cwV 2 hts gL_law_X8_freeFrom rfl rfl rfl (by decide +kernel) ⟨Nat.le_of_ble_eq_true rfl, Nat.le_of_ble_eq_true rfl⟩) zs0 hK hPm (zr_recv hK (hPm 0 (by decide)) rfl) hS (fun q h => h.elim (fun ⟨k, k0, e⟩ => by rw [e]; exact hG.2.2.2.2 k k0) (fun z => Nat.le_trans hS.1 z)) rfl hl.1 rfl (Nat.le_of_ble_eq_true rfl) dL_law_956 ⟨Nat.le_of_ble_eq_true rfl, Nat.le_of_ble_eq_true rfl⟩ (fun r8 H2 locs2 hG8 hz2 hk2 hS2 => ?_)
  obtain ⟨e8, μ', hM', hPm'⟩ := hG8
  subst e8
  refine lv_icmp_eq (pc := 959) (tgt := 997) hx hb dL_law_959 (by decide) (fun _ => ?_) (fun z => absurd rfl z)
  exact next H2 locs2 ls ⟨g, n, hs, tl, tx, hgO, ⟨σ, σs, m0, rd, rp, hR, hC, hn, hm, cW_keep ⟨hP, hH1, hH2, hQ, hY⟩ hG hk2⟩, ⟨μ', hM', hPm'⟩, LX_k8 hLX hG hk2⟩ hS2 hl
set_option maxHeartbeats 4000000 in
theorem lwc_26 {p : Program} {l : Launch} {e : Env} {s : State} {m : MethodId} {below : List Frame} {meth : Method} {c : Code} {H : Heap} {locs : List Loc} {ls : Array Slot} {Q : State → Prop} {D : va_G} {cI cT : ClassId} {b L : Nat} {xs : Nat → Int32} {ad am : Nat → Nat} {i : Int}
    (S : CallFix p m c cL_law 4 s #[Value.ref b] wsL_law RL) (hK : zK D cI cT s) (hX : va_X b L xs s s.heap) (hbl : b < s.heap.size) (hL : (L : Int) ≤ 3072) (hG : LG ad am s.heap.size) (hLI : LI D cI cT ad am s.heap.size s H) (hS : va_S (fun q => s.heap.size ≤ q) s.heap H locs)
    (hl : lv_has ls 4 [(3, .int (zI i)), (2, .ref (am 0)), (1, .ref (ad 120)), (0, .ref b)]) (i0 : 0 ≤ i) (i1 : i + 6 ≤ (L : Int))
    (next : ∀ (H1 : Heap) (locs1 : List Loc) (ls1 : Array Slot), LI D cI cT ad am s.heap.size s H1 → va_S (fun q => s.heap.size ≤ q) s.heap H1 locs1 → lv_has ls1 4 [(3, .int (zI i)), (2, .ref (am 0)), (1, .ref (ad 120)), (0, .ref b)] → W p l e room_1 s m #[Value.ref b] below meth c H1 locs1 132 7992 Q (F0 m 997 ls1 [])) :
    W p l e room_1 s m #[Value.ref b] below meth c H locs 132 7992 Q (F0 m 964 ls []) := by
  have hx := S.1
  have hb := S.2.1
  have hts := S.2.2.2.2
  obtain ⟨g, n, hs, tl, tx, hgO, ⟨σ, σs, m0, rd, rp, hR, hC, hn, hm, hP, hH1, hH2, hQ, hY⟩, ⟨μ, hM, hPm⟩, hLX⟩ := hLI
  have hI := hgO.1
  obtain ⟨t0, t1, htx⟩ := hgO.2.2
  refine lv_aload_n (pc := 964) hx hb dL_law_964 rfl (lv_at hl 2 rfl) ?_
  refine lv_aload_n (pc := 965) hx hb dL_law_965 rfl (lv_at hl 3 rfl) ?_
  refine lv_iload_n (pc := 966) hx hb dL_law_966 rfl (lv_at hl 0 rfl) ?_
  refine lv_iconst (pc := 967) (v := zI 1) hx hb dL_law_967 rfl ?_
  refine zr_iadd (pc := 968) (d := i + 1) hx hb dL_law_968 rfl ?_
  refine zr_sld (pc := 969) hx hb hX hbl (Nat.not_le.mpr hbl) hS (by omega) (by omega) (by omega) dL_law_969 ?_
  refine lv_aload_n (pc := 970) hx hb dL_law_970 rfl (lv_at hl 3 rfl) ?_
  refine lv_iload_n (pc := 971) hx hb dL_law_971 rfl (lv_at hl 0 rfl) ?_
  refine lv_iconst (pc := 972) (v := zI 2) hx hb dL_law_972 rfl ?_
  refine zr_iadd (pc := 973) (d := i + 2) hx hb dL_law_973 rfl ?_
  refine zr_sld (pc := 974) hx hb hX hbl (Nat.not_le.mpr hbl) hS (by omega) (by omega) (by omega) dL_law_974 ?_
  refine zr_vi (pc := 975) (As := [.int (zI (xv xs (i + 1))), .int (zI (xv xs (i + 2)))]) (rest := []) S (ct_X7_washable l D cI cT s.heap.size ad σ g hR hI tl tx rd rp (xv xs (i + 1)) (xv xs (i + 2)) (xv_r xs (i + 1)) (xv_r xs (i + 2))) (cwV 2 hts gL_law_X7_washable rfl rfl rfl (by decide +kernel) ⟨Nat.le_of_ble_eq_true rfl, Nat.le_of_ble_eq_true rfl⟩) zs_T hK ⟨⟨hP, hY⟩, hLX.1⟩ (zr_recv hK hY.1 rfl) rfl hl.1 rfl (Nat.le_of_ble_eq_true rfl) dL_law_975 ⟨Nat.le_of_ble_eq_true rfl, Nat.le_of_ble_eq_true rfl⟩ (fun r7 e7 => ?_)
  subst e7
  refine lv_aload_n (pc := 978) hx hb dL_law_978 rfl (lv_at hl 1 rfl) ?_
  refine lv_aload_n (pc := 979) hx hb dL_law_979 rfl (lv_at hl 3 rfl) ?_
  refine lv_iload_n (pc := 980) hx hb dL_law_980 rfl (lv_at hl 0 rfl) ?_
  refine lv_iconst (pc := 981) (v := zI 1) hx hb dL_law_981 rfl ?_
  refine zr_iadd (pc := 982) (d := i + 1) hx hb dL_law_982 rfl ?_
  refine zr_sld (pc := 983) hx hb hX hbl (Nat.not_le.mpr hbl) hS (by omega) (by omega) (by omega) dL_law_983 ?_
  refine lv_aload_n (pc := 984) hx hb dL_law_984 rfl (lv_at hl 3 rfl) ?_
  refine lv_iload_n (pc := 985) hx hb dL_law_985 rfl (lv_at hl 0 rfl) ?_
  refine lv_iconst (pc := 986) (v := zI 2) hx hb dL_law_986 rfl ?_
  refine zr_iadd (pc := 987) (d := i + 2) hx hb dL_law_987 rfl ?_
  refine zr_sld (pc := 988) hx hb hX hbl (Nat.not_le.mpr hbl) hS (by omega) (by omega) (by omega) dL_law_988 ?_
  refine zr_vwi (pc := 989) (As := [.int (zI (xv xs (i + 1))), .int (zI (xv xs (i + 2)))]) (rest := [.int (zI (qWas g (xv xs (i + 1)) (xv xs (i + 2))))]) S (ct_X8_washable l D cI cT H.size am μ g n hs tl tx hM hI hG.2.1 (xv xs (i + 1)) (xv xs (i + 2)) (xv_r xs (i + 1)) (xv_r xs (i + 2))) (cwV 2 hts gL_law_X8_washable rfl rfl rfl (by decide +kernel) ⟨Nat.le_of_ble_eq_true rfl, Nat.le_of_ble_eq_true rfl⟩) zs0 hK hPm (zr_recv hK (hPm 0 (by decide)) rfl) hS (fun q h => h.elim (fun ⟨k, k0, e⟩ => by rw [e]; exact hG.2.2.2.2 k k0) (fun z => Nat.le_trans hS.1 z)) rfl hl.1 rfl (Nat.le_of_ble_eq_true rfl) dL_law_989 ⟨Nat.le_of_ble_eq_true rfl, Nat.le_of_ble_eq_true rfl⟩ (fun r8 H2 locs2 hG8 hz2 hk2 hS2 => ?_)
  obtain ⟨e8, μ', hM', hPm'⟩ := hG8
  subst e8
  refine lv_icmp_eq (pc := 992) (tgt := 997) hx hb dL_law_992 (by decide) (fun _ => ?_) (fun z => absurd rfl z)
  exact next H2 locs2 ls ⟨g, n, hs, tl, tx, hgO, ⟨σ, σs, m0, rd, rp, hR, hC, hn, hm, cW_keep ⟨hP, hH1, hH2, hQ, hY⟩ hG hk2⟩, ⟨μ', hM', hPm'⟩, LX_k8 hLX hG hk2⟩ hS2 hl
