/-! the law: its start, its loop, its end -/
theorem oM_J {h sz : Nat} (hh : h < sz) : zJ (oM h sz) 5 := by
  intro i j hi hj e
  match i, j, e with
  | 0, 0, _ => rfl
  | 0, j + 1, e =>
    have e2 : h = sz + j := e
    omega
  | i + 1, 0, e =>
    have e2 : sz + i = h := e
    omega
  | i + 1, j + 1, e =>
    have e2 : sz + i = sz + j := e
    omega
theorem oM_ge {h sz : Nat} (hh : h < sz) (k : Nat) : h ≤ oM h sz k := by
  match k with
  | 0 => exact Nat.le_refl _
  | k + 1 =>
    show h ≤ sz + k
    omega
theorem LG_00 {a : Nat} : LG (adF a (a + 1)) (oM (a + 127) (a + 128)) a := by
  refine ⟨adF_J (by omega), oM_J (by omega), fun i j hi hj e => ?_, fun k _ => adF_ge (by omega) k, fun k _ => Nat.le_trans (by omega) (oM_ge (h := a + 127) (sz := a + 128) (by omega) k)⟩
  have h1 := adF_lt (h := a) (sz := a + 1) (by omega) hi
  have h2 := oM_ge (h := a + 127) (sz := a + 128) (by omega) j
  omega
theorem gOK_00 : gOK g00 0 (fun _ => g00) 0 (fun _ => 0) := ⟨inv_00, fun j hj => absurd hj (Nat.not_lt_zero _), by decide, by decide, fun i i0 i1 => absurd i1 (by omega)⟩
set_option maxHeartbeats 4000000 in
theorem lw_body {p : Program} {l : Launch} {e : Env} {s : State} {m : MethodId} {below : List Frame} {meth : Method} {c : Code} {H : Heap} {locs : List Loc} {ls : Array Slot} {Q : State → Prop} {D : va_G} {cI cT : ClassId} {b L : Nat} {xs : Nat → Int32} {ad am : Nat → Nat} {i : Int}
    (S : CallFix p m c cL_law 4 s #[Value.ref b] wsL_law RL) (hK : zK D cI cT s) (hX : va_X b L xs s s.heap) (hbl : b < s.heap.size) (hL : (L : Int) ≤ 3072) (hG : LG ad am s.heap.size) (hLI : LI D cI cT ad am s.heap.size s H) (hS : va_S (fun q => s.heap.size ≤ q) s.heap H locs)
    (hl : lv_has ls 4 [(3, .int (zI i)), (2, .ref (am 0)), (1, .ref (ad 120)), (0, .ref b)]) (i0 : 0 ≤ i) (i2 : i ≤ 4000)
    (next : ∀ (H1 : Heap) (locs1 : List Loc) (ls1 : Array Slot), LI D cI cT ad am s.heap.size s H1 → va_S (fun q => s.heap.size ≤ q) s.heap H1 locs1 → lv_has ls1 4 [(3, .int (zI i)), (2, .ref (am 0)), (1, .ref (ad 120)), (0, .ref b)] → i + 6 ≤ (L : Int) → W p l e room_1 s m #[Value.ref b] below meth c H1 locs1 132 7992 Q (F0 m 997 ls1 []))
    (out : W p l e room_1 s m #[Value.ref b] below meth c H locs 132 7992 Q (F0 m 1003 ls [])) :
    W p l e room_1 s m #[Value.ref b] below meth c H locs 132 7992 Q (F0 m 18 ls []) := by
  have hx := S.1
  have hb := S.2.1
  refine lv_iload_n (pc := 18) hx hb dL_law_18 rfl (lv_at hl 0 rfl) ?_
  refine lv_aload_n (pc := 19) hx hb dL_law_19 rfl (lv_at hl 3 rfl) ?_
  refine zr_slen (pc := 20) hx hb hX hbl (Nat.not_le.mpr hbl) hS dL_law_20 ?_
  refine lv_bipush (pc := 21) (v := zI 6) hx hb dL_law_21 (by decide) ?_
  refine zr_isub (pc := 23) (d := (L : Int) - 6) hx hb dL_law_23 rfl ?_
  refine zr_icmp_gt (pc := 24) (tgt := 1003) hx hb dL_law_24 (by decide) (by omega) (by omega) (fun _ => out) (fun i1 => ?_)
  replace next : ∀ (H1 : Heap) (locs1 : List Loc) (ls1 : Array Slot), LI D cI cT ad am s.heap.size s H1 → va_S (fun q => s.heap.size ≤ q) s.heap H1 locs1 → lv_has ls1 4 [(3, .int (zI i)), (2, .ref (am 0)), (1, .ref (ad 120)), (0, .ref b)] → W p l e room_1 s m #[Value.ref b] below meth c H1 locs1 132 7992 Q (F0 m 997 ls1 []) := fun H1 locs1 ls1 a1 a2 a3 => next H1 locs1 ls1 a1 a2 a3 (by omega)
  replace i1 : i + 6 ≤ (L : Int) := by omega
  refine lv_aload_n (pc := 27) hx hb dL_law_27 rfl (lv_at hl 3 rfl) ?_
  refine lv_iload_n (pc := 28) hx hb dL_law_28 rfl (lv_at hl 0 rfl) ?_
  refine zr_sld (pc := 29) hx hb hX hbl (Nat.not_le.mpr hbl) hS (by omega) (by omega) (by omega) dL_law_29 ?_
  refine lv_bipush (pc := 30) (v := zI 31) hx hb dL_law_30 (by decide) ?_
  refine lv_iand (pc := 32) hx hb dL_law_32 ?_
  obtain ⟨y, y0, y1, ey⟩ := zi_and31 (xv xs i)
  rw [ey]
  clear ey
  rcases (show y = 0 ∨ y = 1 ∨ y = 2 ∨ y = 3 ∨ y = 4 ∨ y = 5 ∨ y = 6 ∨ y = 7 ∨ y = 8 ∨ y = 9 ∨ y = 10 ∨ y = 11 ∨ y = 12 ∨ y = 13 ∨ y = 14 ∨ y = 15 ∨ y = 16 ∨ y = 17 ∨ y = 18 ∨ y = 19 ∨ y = 20 ∨ y = 21 ∨ y = 22 ∨ y = 23 ∨ y = 24 ∨ y = 25 ∨ y = 26 ∨ 26 < y by omega) with rfl | rfl | rfl | rfl | rfl | rfl | rfl | rfl | rfl | rfl | rfl | rfl | rfl | rfl | rfl | rfl | rfl | rfl | rfl | rfl | rfl | rfl | rfl | rfl | rfl | rfl | rfl | hy
  · exact lv_tableIn (pc := 33) (tgt := 156) hx hb dL_law_33 (by decide) (by decide) (by decide +kernel : _ = some (123 : Int)) (by decide) (lwc_0 S hK hX hbl hL hG hLI hS hl i0 i1 next)
  · exact lv_tableIn (pc := 33) (tgt := 219) hx hb dL_law_33 (by decide) (by decide) (by decide +kernel : _ = some (186 : Int)) (by decide) (lwc_1 S hK hX hbl hL hG hLI hS hl i0 i1 next)
  · exact lv_tableIn (pc := 33) (tgt := 252) hx hb dL_law_33 (by decide) (by decide) (by decide +kernel : _ = some (219 : Int)) (by decide) (lwc_2 S hK hX hbl hL hG hLI hS hl i0 i1 next)
  · exact lv_tableIn (pc := 33) (tgt := 295) hx hb dL_law_33 (by decide) (by decide) (by decide +kernel : _ = some (262 : Int)) (by decide) (lwc_3 S hK hX hbl hL hG hLI hS hl i0 i1 next)
  · exact lv_tableIn (pc := 33) (tgt := 328) hx hb dL_law_33 (by decide) (by decide) (by decide +kernel : _ = some (295 : Int)) (by decide) (lwc_4 S hK hX hbl hL hG hLI hS hl i0 i1 next)
  · exact lv_tableIn (pc := 33) (tgt := 371) hx hb dL_law_33 (by decide) (by decide) (by decide +kernel : _ = some (338 : Int)) (by decide) (lwc_5 S hK hX hbl hL hG hLI hS hl i0 i1 next)
  · exact lv_tableIn (pc := 33) (tgt := 394) hx hb dL_law_33 (by decide) (by decide) (by decide +kernel : _ = some (361 : Int)) (by decide) (lwc_6 S hK hX hbl hL hG hLI hS hl i0 i1 next)
  · exact lv_tableIn (pc := 33) (tgt := 417) hx hb dL_law_33 (by decide) (by decide) (by decide +kernel : _ = some (384 : Int)) (by decide) (lwc_7 S hK hX hbl hL hG hLI hS hl i0 i1 next)
  · exact lv_tableIn (pc := 33) (tgt := 430) hx hb dL_law_33 (by decide) (by decide) (by decide +kernel : _ = some (397 : Int)) (by decide) (lwc_8 S hK hX hbl hL hG hLI hS hl i0 i1 next)
  · exact lv_tableIn (pc := 33) (tgt := 443) hx hb dL_law_33 (by decide) (by decide) (by decide +kernel : _ = some (410 : Int)) (by decide) (lwc_9 S hK hX hbl hL hG hLI hS hl i0 i1 next)
  · exact lv_tableIn (pc := 33) (tgt := 486) hx hb dL_law_33 (by decide) (by decide) (by decide +kernel : _ = some (453 : Int)) (by decide) (lwc_10 S hK hX hbl hL hG hLI hS hl i0 i1 next)
  · exact lv_tableIn (pc := 33) (tgt := 499) hx hb dL_law_33 (by decide) (by decide) (by decide +kernel : _ = some (466 : Int)) (by decide) (lwc_11 S hK hX hbl hL hG hLI hS hl i0 i1 next)
  · exact lv_tableIn (pc := 33) (tgt := 522) hx hb dL_law_33 (by decide) (by decide) (by decide +kernel : _ = some (489 : Int)) (by decide) (lwc_12 S hK hX hbl hL hG hLI hS hl i0 i1 next)
  · exact lv_tableIn (pc := 33) (tgt := 575) hx hb dL_law_33 (by decide) (by decide) (by decide +kernel : _ = some (542 : Int)) (by decide) (lwc_13 S hK hX hbl hL hG hLI hS hl i0 i1 next)
  · exact lv_tableIn (pc := 33) (tgt := 598) hx hb dL_law_33 (by decide) (by decide) (by decide +kernel : _ = some (565 : Int)) (by decide) (lwc_14 S hK hX hbl hL hG hLI hS hl i0 i1 next)
  · exact lv_tableIn (pc := 33) (tgt := 631) hx hb dL_law_33 (by decide) (by decide) (by decide +kernel : _ = some (598 : Int)) (by decide) (lwc_15 S hK hX hbl hL hG hLI hS hl i0 i1 next)
  · exact lv_tableIn (pc := 33) (tgt := 644) hx hb dL_law_33 (by decide) (by decide) (by decide +kernel : _ = some (611 : Int)) (by decide) (lwc_16 S hK hX hbl hL hG hLI hS hl i0 i1 next)
  · exact lv_tableIn (pc := 33) (tgt := 667) hx hb dL_law_33 (by decide) (by decide) (by decide +kernel : _ = some (634 : Int)) (by decide) (lwc_17 S hK hX hbl hL hG hLI hS hl i0 i1 next)
  · exact lv_tableIn (pc := 33) (tgt := 700) hx hb dL_law_33 (by decide) (by decide) (by decide +kernel : _ = some (667 : Int)) (by decide) (lwc_18 S hK hX hbl hL hG hLI hS hl i0 i1 next)
  · exact lv_tableIn (pc := 33) (tgt := 743) hx hb dL_law_33 (by decide) (by decide) (by decide +kernel : _ = some (710 : Int)) (by decide) (lwc_19 S hK hX hbl hL hG hLI hS hl i0 i1 next)
  · exact lv_tableIn (pc := 33) (tgt := 776) hx hb dL_law_33 (by decide) (by decide) (by decide +kernel : _ = some (743 : Int)) (by decide) (lwc_20 S hK hX hbl hL hG hLI hS hl i0 i1 next)
  · exact lv_tableIn (pc := 33) (tgt := 809) hx hb dL_law_33 (by decide) (by decide) (by decide +kernel : _ = some (776 : Int)) (by decide) (lwc_21 S hK hX hbl hL hG hLI hS hl i0 i1 next)
  · exact lv_tableIn (pc := 33) (tgt := 832) hx hb dL_law_33 (by decide) (by decide) (by decide +kernel : _ = some (799 : Int)) (by decide) (lwc_22 S hK hX hbl hL hG hLI hS hl i0 i1 next)
  · exact lv_tableIn (pc := 33) (tgt := 865) hx hb dL_law_33 (by decide) (by decide) (by decide +kernel : _ = some (832 : Int)) (by decide) (lwc_23 S hK hX hbl hL hG hLI hS hl i0 i1 next)
  · exact lv_tableIn (pc := 33) (tgt := 898) hx hb dL_law_33 (by decide) (by decide) (by decide +kernel : _ = some (865 : Int)) (by decide) (lwc_24 S hK hX hbl hL hG hLI hS hl i0 i1 next)
  · exact lv_tableIn (pc := 33) (tgt := 931) hx hb dL_law_33 (by decide) (by decide) (by decide +kernel : _ = some (898 : Int)) (by decide) (lwc_25 S hK hX hbl hL hG hLI hS hl i0 i1 next)
  · exact lv_tableIn (pc := 33) (tgt := 964) hx hb dL_law_33 (by decide) (by decide) (by decide +kernel : _ = some (931 : Int)) (by decide) (lwc_26 S hK hX hbl hL hG hLI hS hl i0 i1 next)
  · exact lv_tableOut (pc := 33) (tgt := 997) hx hb dL_law_33 (Or.inr (by rw [zi_toInt (by omega)]; exact hy)) (by decide) (next H locs ls hLI hS hl)
set_option maxHeartbeats 4000000 in
theorem whole_start {p : Program} {e : Env} {s : State} {m : MethodId} {below : List Frame} {meth : Method} {c : Code} (l : Launch) (hflags : l.flags = flags0) {b L : Nat} {xs : Nat → Int32} (hL : L ≤ 3072) (C0 : lw_At p s m meth c b L xs) : W p l e room_1 s m #[Value.ref b] below meth c s.heap [] 0 0 (lw_Z below #[Value.ref b] s) (entryFrame m ([Value.ref b] : List Value).toArray 4) := by
  obtain ⟨hx, hb, hr, hml, hown, hts, hX, hbl, hlocks, hgv⟩ := C0
  have hsg := flat_of_before _ hgv
  have S : CallFix p m c cL_law 4 s #[Value.ref b] wsL_law RL := ⟨hx, hb, hml, hown, fun w h => hts w (wsL_law_in w h)⟩
  have hownL : s.vm.findClass RL = some m.cls := hown
  obtain ⟨D, cI, cT, hK⟩ := lw_zK hts
  have hT : zT s.heap.size s s.heap := ⟨lw_tP hts hsg, lw_tD hts hsg, lw_tC hts hsg⟩
  have hSt := lw_zSt hts hsg
  have hAO : va_AO "CostumeStock$State" s := va_AO.of (hts (.arrayOver (.object "CostumeStock$State")) (by decide +kernel))
  have hLn : (L : Int) ≤ 3072 := by omega
  obtain ⟨a, ha⟩ : ∃ a : Nat, s.heap.size = a := ⟨_, rfl⟩
  have hS : va_S (fun q => s.heap.size ≤ q) s.heap s.heap [] := va_S.rf
  have hl := lv_entry ([.ref b]) (n := 4) (Nat.le_of_ble_eq_true rfl)
  rw [lg_entry_eq]
  generalize (lg_sl ([.ref b]) ++ List.replicate (4 - (lg_sl ([.ref b])).length) Slot.unset).toArray = ls at hl ⊢
  have hl : lv_has ls 4 [(0, .ref b)] := hl
  refine zr_new (pc := 0) (ci := 7) hx hb hts (fun w h => inX7 w h) tyX7 tyX7_ok hownL (hts (.classLink RL 7 RX7) (by decide +kernel)) (hts (.instantiable RX7 4) (by decide +kernel)) (hts (.initialized RX7) (by decide +kernel)) hK hS rfl [.null, .null, .null, .null] (fun j hj => by rcases (show j = 0 ∨ j = 1 ∨ j = 2 ∨ j = 3 by omega) with rfl | rfl | rfl | rfl <;> rfl) (Nat.le_of_ble_eq_true rfl) (Nat.le_of_ble_eq_true rfl) dL_law_0 ha (fun H hN hz hk hS => ?_)
  refine lv_dup (pc := 3) hx hb dL_law_3 rfl ?_
  refine zr_iI (pc := 4) (As := []) (rest := [.ref (a)]) (sz := a + 1) S (ct_X7_init l D cI cT (a) (a + 1) (by omega)) (cwI 0 S.2.2.2.2 gL_law_X7_init rfl rfl rfl (hts (.initialized RX7) (by decide +kernel)) (hts (.methodLink RL 9 yX7_init) (by decide +kernel)) (hts (.instanceMethod yX7_init) (by decide +kernel)) rfl (by decide +kernel) ⟨(Nat.le_of_ble_eq_true rfl), (Nat.le_of_ble_eq_true rfl)⟩) zs_AO hK ⟨hN, hAO⟩ hz hS (fun q z => by show s.heap.size ≤ q; rcases z with z | z <;> omega) rfl hl.1 rfl (Nat.le_of_ble_eq_true rfl) dL_law_4 ⟨(Nat.le_of_ble_eq_true rfl), (Nat.le_of_ble_eq_true rfl)⟩ (fun H locs hG2 hk2 hS => ?_)
  obtain ⟨hz7, hP, hH1, hH2, hQ, hY⟩ := hG2
  clear hz hk hk2 hN
  refine lv_astore_n (pc := 7) (lv' := [(1, .ref a), (0, .ref b)]) hx hb dL_law_7 rfl hl (by decide) rfl (fun ls hl => ?_)
  have hW : cW D cI cT (adF a (a + 1)) σ00 (fun _ => σ00) 0 0 0 (fun _ => 0) (fun _ => 0) (fun _ => 0) H := ⟨hP, hH1, hH2, hQ, hY⟩
  clear hP hH1 hH2 hQ hY
  have hz7 : H.size = a + 127 := by omega
  have hLG := LG_00 (a := a)
  refine zr_new (pc := 8) (ci := 8) hx hb hts (fun w h => inX8 w h) tyX8 tyX8_ok hownL (hts (.classLink RL 10 RX8) (by decide +kernel)) (hts (.instantiable RX8 12) (by decide +kernel)) (hts (.initialized RX8) (by decide +kernel)) hK hS rfl [.int (zI 0), .null, .null, .null, .int (zI 0), .null, .int (zI 0), .int (zI 0), .int (zI 0), .int (zI 0), .long (zL 0), .int (zI 0)] (fun j hj => by rcases (show j = 0 ∨ j = 1 ∨ j = 2 ∨ j = 3 ∨ j = 4 ∨ j = 5 ∨ j = 6 ∨ j = 7 ∨ j = 8 ∨ j = 9 ∨ j = 10 ∨ j = 11 by omega) with rfl | rfl | rfl | rfl | rfl | rfl | rfl | rfl | rfl | rfl | rfl | rfl <;> rfl) (Nat.le_of_ble_eq_true rfl) (Nat.le_of_ble_eq_true rfl) dL_law_8 hz7 (fun H hN hz hk hS => ?_)
  have hW := cW_keep hW hLG (fun q h1 _ => hk q h1)
  replace hz : H.size = a + 128 := hz
  clear hk hz7
  refine lv_dup (pc := 11) hx hb dL_law_11 rfl ?_
  refine zr_iI (pc := 12) (As := []) (rest := [.ref (a + 127)]) (sz := a + 128) S (ct_X8_init l D cI cT (a + 127) (a + 128) (by omega)) (cwI 0 S.2.2.2.2 gL_law_X8_init rfl rfl rfl (hts (.initialized RX8) (by decide +kernel)) (hts (.methodLink RL 12 yX8_init) (by decide +kernel)) (hts (.instanceMethod yX8_init) (by decide +kernel)) rfl (by decide +kernel) ⟨(Nat.le_of_ble_eq_true rfl), (Nat.le_of_ble_eq_true rfl)⟩) zs0 hK hN hz hS (fun q z => by show s.heap.size ≤ q; rcases z with z | z <;> omega) rfl hl.1 rfl (Nat.le_of_ble_eq_true rfl) dL_law_12 ⟨(Nat.le_of_ble_eq_true rfl), (Nat.le_of_ble_eq_true rfl)⟩ (fun H locs hG2 hk2 hS => ?_)
  obtain ⟨hz8, hM⟩ := hG2
  have hW := cW_keep hW hLG (fun q h1 h2 => hk2 q h1 (fun z => z.elim (fun z => h2 (Or.inl ⟨0, by decide, z⟩)) (fun z => h2 (Or.inr (by omega)))))
  clear hz hk2 hN
  have hLI : LI D cI cT (adF a (a + 1)) (oM (a + 127) (a + 128)) s.heap.size s H := ⟨g00, 0, fun _ => g00, 0, fun _ => 0, gOK_00, ⟨σ00, fun _ => σ00, 0, fun _ => 0, fun _ => 0, rel_00, fun j hj => absurd hj (Nat.not_lt_zero _), by decide, by decide, hW⟩, ⟨μ00, mR_00 _, hM⟩, hT.kept (fun q h1 h2 => hS.2.1 q h1 (Nat.not_le.mpr h2)), hSt.kept (fun q h1 h2 => hS.2.1 q h1 h2)⟩
  replace hLG : LG (adF a (a + 1)) (oM (a + 127) (a + 128)) s.heap.size := by rw [ha]; exact hLG
  clear hW hM
  have e120 : adF a (a + 1) 120 = a := if_pos rfl
  have e0 : oM (a + 127) (a + 128) 0 = a + 127 := rfl
  generalize adF a (a + 1) = ad at hLG hLI e120
  generalize oM (a + 127) (a + 128) = am at hLG hLI e0
  refine lv_astore_n (pc := 15) (lv' := [(2, .ref (a + 127)), (1, .ref a), (0, .ref b)]) hx hb dL_law_15 rfl hl (by decide) rfl (fun ls hl => ?_)
  refine lv_iconst (pc := 16) (v := zI 0) hx hb dL_law_16 rfl ?_
  refine lv_istore_n (pc := 17) (lv' := [(3, .int (zI 0)), (2, .ref (a + 127)), (1, .ref a), (0, .ref b)]) hx hb dL_law_17 rfl hl (by decide) rfl (fun ls hl => ?_)
  rw [← e0, ← e120] at hl
  clear e120 e0 hz8
  refine W.widen (k := 132) (n := 7992) (by omega) (by omega) ?_
  refine zr_hloop1 (A1 := Int) (nL := 4) (I := fun i H => 0 ≤ i ∧ i ≤ 4000 ∧ LI D cI cT ad am s.heap.size s H) (μ := fun i => (4000 - i).toNat) (lv := fun i => [(3, .int (zI i)), (2, .ref (am 0)), (1, .ref (ad 120)), (0, .ref b)]) (fun i H locs hI hS again ls hl => ?_) 0 ⟨by decide, by decide, hLI⟩ hS hl
  refine lw_body S hK hX hbl hLn hLG hI.2.2 hS hl hI.1 hI.2.1 (fun H1 locs1 ls1 hLI1 hS1 hl1 i1 => ?_) ?_
  · have h0 := hI.1
    refine zr_iinc (pc := 997) (d := i + 6) (lv' := [(3, .int (zI (i + 6))), (2, .ref (am 0)), (1, .ref (ad 120)), (0, .ref b)]) hx hb dL_law_997 hl1 (k := 0) rfl rfl (by decide) rfl (fun ls hl => ?_)
    refine lv_goto (pc := 1000) (tgt := 18) hx hb dL_law_1000 (by decide) ?_
    exact again (i + 6) H1 locs1 ⟨by omega, by omega, hLI1⟩ hS1 (show (4000 - (i + 6)).toNat < (4000 - i).toNat by omega) ls hl
  · refine lv_iconst (pc := 1003) (v := 1) hx hb dL_law_1003 rfl ?_
    refine W.widen (k := 600000) (n := 7302250) (by decide) (by decide) ?_
    refine va_forget (fun q hq => hS.2.2 q hq) ?_
    exact lw_ret hx hb hr hlocks dL_law_1004
