set_option maxHeartbeats 4000000 in
set_option maxRecDepth 100000 in
theorem ct_X7_copyRow (l : Launch) (D : va_G) (cI cT : ClassId) (sz : Nat) (q1 q2 n : Nat) (f f2 : Int → Int) (hn : (n : Int) ≤ 2147483647) : zMv l yX7_copyRow wsX7_copyRow ({ frames := 1, cells := 0, slots := 0, locals := 30 }) D cI cT [.ref (q1), .ref (q2)] sz (fun _ H => va_at D vwCl (q1, .inl (cI, n, .inl (zf f))) H ∧ va_at D vwCl (q2, .inl (cI, n, .inl (zf f2))) H) (fun H => va_at D vwCl (q2, .inl (cI, n, .inl (zf f))) H) (fun x => x = q2 ∨ sz ≤ x) := by
  refine Met.ofW (cc := cX7_copyRow) (maxL := 2) (ret := none) (by decide) rfl ?_
  intro p_ e_ s m_ args below meth c_ s₁ B hml hv
  obtain ⟨rfl, hsz, hK, hF⟩ := hv
  have hx := B.exec
  have hb := B.bytes
  have hr := B.returns
  have hts := atoms_spec (ws := wsX7_copyRow) B.pre
  have hown : s.vm.findClass RX7 = some m_.cls := findClass_of_methodNamed B.named
  have hlocks := B.notSynchronized
  have S : CallFix p_ m_ c_ cX7_copyRow 2 s _ wsX7_copyRow RX7 := ⟨hx, hb, hml, hown, hts⟩
  subst hsz
  generalize hAe : (fun x => x = q2 ∨ s.heap.size ≤ x) = A
  have hAn : ∀ q : Nat, s.heap.size ≤ q → A q := fun q h => by rw [← hAe]; exact Or.inr h
  obtain ⟨H, hHe⟩ : ∃ H : Heap, H = s.heap := ⟨_, rfl⟩
  rw [← hHe] at hF ⊢
  have hS : va_S A s.heap H [] := by rw [hHe]; exact va_S.rf
  have hq : A q2 := by rw [← hAe]; exact Or.inl rfl
  have hl := lv_entry ([.ref (q1), .ref (q2)]) (n := 2) (Nat.le_of_ble_eq_true rfl)
  rw [lg_entry_eq]
  generalize (lg_sl ([.ref (q1), .ref (q2)]) ++ List.replicate (2 - (lg_sl ([.ref (q1), .ref (q2)])).length) Slot.unset).toArray = ls at hl ⊢
  have hl : lv_has ls 2 [(0, .ref (q1)), (1, .ref (q2))] := hl
  refine lv_aload_n (pc := 0) hx hb dX7_copyRow_0 rfl (lv_at hl 0 rfl) ?_
  refine lv_iconst (pc := 1) (v := zI 0) hx hb dX7_copyRow_1 rfl ?_
  refine lv_aload_n (pc := 2) hx hb dX7_copyRow_2 rfl (lv_at hl 1 rfl) ?_
  refine lv_iconst (pc := 3) (v := zI 0) hx hb dX7_copyRow_3 rfl ?_
  refine lv_aload_n (pc := 4) hx hb dX7_copyRow_4 rfl (lv_at hl 0 rfl) ?_
  refine zr_alen (pc := 5) (n := n) hx hb (zAr_of (zK_int hK) hF.1) dX7_copyRow_5 ?_
  refine lv_aload_n (pc := 6) hx hb dX7_copyRow_6 rfl (lv_at hl 1 rfl) ?_
  refine zr_alen (pc := 7) (n := n) hx hb (zAr_of (zK_int hK) hF.2) dX7_copyRow_7 ?_
  refine zr_mmin (pc := 8) hx hb (hml.trans hl.1.symm) hown (hts _ (List.mem_of_getElem? (i := 1) rfl)) (hts _ (List.mem_of_getElem? (i := 2) rfl)) (hts _ (List.mem_of_getElem? (i := 3) rfl)) (hts _ (List.mem_of_getElem? (i := 4) rfl)) (Nat.le_of_ble_eq_true rfl) (Nat.le_of_ble_eq_true rfl) (Nat.le_of_ble_eq_true rfl) (Nat.le_of_ble_eq_true rfl) dX7_copyRow_8 (by omega) (by omega) (d := (n : Int)) (Int.min_self _) ?_
  refine zr_copy (pc := 11) hx hb (hml.trans hl.1.symm) hown (hts _ (List.mem_of_getElem? (i := 5) rfl)) (hts _ (List.mem_of_getElem? (i := 6) rfl)) (hts _ (List.mem_of_getElem? (i := 7) rfl)) (hts _ (List.mem_of_getElem? (i := 8) rfl)) hK hF.1 hF.2 hn hS hq (Nat.le_of_ble_eq_true rfl) (Nat.le_of_ble_eq_true rfl) dX7_copyRow_11 (fun H locs hO hz hk hS => ?_)
  exact W.vret hx hb hr (fun tz ht hW => ⟨⟨(), rfl, trivial, by dsimp only; rw [ht]; exact hO⟩, hS.F ht⟩) hS.2.2 dX7_copyRow_14
set_option maxHeartbeats 4000000 in
set_option maxRecDepth 100000 in
theorem ct_X6_copyFrom (l : Launch) (D : va_G) (cI cT : ClassId) (sz : Nat) (ad ad2 : Nat → Nat) (σ σ2 : Nat → Int → Int) (hJ : zJ ad 20) (hdj : ∀ i j : Nat, i < 20 → j < 20 → ad i ≠ ad2 j) : zMv l yX6_copyFrom wsX6_copyFrom ({ frames := 2, cells := 0, slots := 0, locals := 51 }) D cI cT [.ref (ad 1), .ref (ad2 1)] sz (fun _ H => zW D ad 20 (sC cI ad σ) H ∧ zW D ad2 20 (sC cI ad2 σ2) H) (fun H => zW D ad 20 (sC cI ad (cpW σ σ2)) H) (zR ad 20 sz) := by
  refine Met.ofW (cc := cX6_copyFrom) (maxL := 2) (ret := none) (by decide) rfl ?_
  intro p_ e_ s m_ args below meth c_ s₁ B hml hv
  obtain ⟨rfl, hsz, hK, hF⟩ := hv
  have hx := B.exec
  have hb := B.bytes
  have hr := B.returns
  have hts := atoms_spec (ws := wsX6_copyFrom) B.pre
  have hown : s.vm.findClass RX6 = some m_.cls := findClass_of_methodNamed B.named
  have hlocks := B.notSynchronized
  have S : CallFix p_ m_ c_ cX6_copyFrom 2 s _ wsX6_copyFrom RX6 := ⟨hx, hb, hml, hown, hts⟩
  have i_X6 : ∀ w ∈ u_ws RX6 TX6 9, w ∈ wsX6_copyFrom := fun _ h => List.mem_cons_of_mem _ (List.mem_append_right _ h)
  subst hsz
  generalize hAe : (zR ad 20 s.heap.size) = A
  have hAn : ∀ q : Nat, s.heap.size ≤ q → A q := fun q h => by rw [← hAe]; exact Or.inr h
  obtain ⟨H, hHe⟩ : ∃ H : Heap, H = s.heap := ⟨_, rfl⟩
  rw [← hHe] at hF ⊢
  have hS : va_S A s.heap H [] := by rw [hHe]; exact va_S.rf
  have hP := hF.1
  have hP2 := hF.2
  have hAin : ∀ k : Nat, k < 20 → A (ad k) := fun k hk => by rw [← hAe]; exact Or.inl ⟨k, hk, rfl⟩
  have hl := lv_entry ([.ref (ad 1), .ref (ad2 1)]) (n := 2) (Nat.le_of_ble_eq_true rfl)
  rw [lg_entry_eq]
  generalize (lg_sl ([.ref (ad 1), .ref (ad2 1)]) ++ List.replicate (2 - (lg_sl ([.ref (ad 1), .ref (ad2 1)])).length) Slot.unset).toArray = ls at hl ⊢
  have hl : lv_has ls 2 [(0, .ref (ad 1)), (1, .ref (ad2 1))] := hl
  refine lv_aload_n (pc := 0) hx hb dX6_copyFrom_0 rfl (lv_at hl 0 rfl) ?_
  refine lv_aload_n (pc := 1) hx hb dX6_copyFrom_1 rfl (lv_at hl 1 rfl) ?_
  refine zr_get (pc := 2) S hK (hP2 1 (by decide)) rfl i_X6 0 (by decide) (List.mem_of_getElem? (i := 1) rfl) rfl dX6_copyFrom_2 ?_
  refine zr_put (pc := 5) S hK (hP 1 (by decide)) rfl i_X6 tyX6 tyX6_ok nmX6 0 (by decide) (List.mem_of_getElem? (i := 1) rfl) rfl rfl rfl (Nat.le_of_ble_eq_true rfl) hS (hAin 1 (by decide)) dX6_copyFrom_5 (fun H locs hO hz hk hS => ?_)
  have hP2 := hP2.keep (A1 := fun q => q = ad 1) (fun q h z => hk q h z) (fun k h e => hdj 1 k (by decide) h e.symm)
  have hP := zW.put hP hJ 1 (by decide) hO hk (sC_1_0 (σ2 1 0))
  refine lv_aload_n (pc := 8) hx hb dX6_copyFrom_8 rfl (lv_at hl 1 rfl) ?_
  refine zr_get (pc := 9) S hK (hP2 1 (by decide)) rfl i_X6 1 (by decide) (List.mem_of_getElem? (i := 2) rfl) rfl dX6_copyFrom_9 ?_
  refine lv_aload_n (pc := 12) hx hb dX6_copyFrom_12 rfl (lv_at hl 0 rfl) ?_
  refine zr_get (pc := 13) S hK (hP 1 (by decide)) rfl i_X6 1 (by decide) (List.mem_of_getElem? (i := 2) rfl) rfl dX6_copyFrom_13 ?_
  refine zr_nwv (pc := 16) (As := [.ref (ad2 5), .ref (ad 5)]) (rest := []) S (ct_X7_copyRow l D cI cT H.size (ad2 5) (ad 5) 48 _ _ (by decide)) (va_cnB 2 hts gX6_copyFrom_X7_copyRow_n40 rfl rfl rfl (zK_nest hK 6 rfl) (hts _ (List.mem_of_getElem? (i := 11) rfl)) (by decide +kernel) ⟨Nat.le_of_ble_eq_true rfl, Nat.le_of_ble_eq_true rfl⟩) (hts _ (List.mem_of_getElem? (i := 10) rfl)) zs0 hK ⟨(hP2 5 (by decide)), (hP 5 (by decide))⟩ hS (fun q h => h.elim (fun e => by rw [e]; exact (hAin 5 (by decide))) (fun z => hAn q (Nat.le_trans hS.1 z))) rfl hl.1 rfl (Nat.le_of_ble_eq_true rfl) dX6_copyFrom_16 ⟨Nat.le_of_ble_eq_true rfl, Nat.le_of_ble_eq_true rfl⟩ (fun H locs hG hz hk hS => ?_)
  have hP2 := hP2.keep (A1 := fun q => q = ad 5) (fun q h z => hk q h (fun y => y.elim z (fun y => absurd h (Nat.not_lt.mpr y)))) (fun k h e => hdj 5 k (by decide) h e.symm)
  have hP := zW.put hP hJ 5 (by decide) hG (fun q h1 h2 => hk q h1 (fun z => z.elim h2 (fun y => absurd h1 (Nat.not_lt.mpr y)))) (sC_b 5 (by decide) _)
  refine lv_aload_n (pc := 19) hx hb dX6_copyFrom_19 rfl (lv_at hl 1 rfl) ?_
  refine zr_get (pc := 20) S hK (hP2 1 (by decide)) rfl i_X6 2 (by decide) (List.mem_of_getElem? (i := 3) rfl) rfl dX6_copyFrom_20 ?_
  refine lv_aload_n (pc := 23) hx hb dX6_copyFrom_23 rfl (lv_at hl 0 rfl) ?_
  refine zr_get (pc := 24) S hK (hP 1 (by decide)) rfl i_X6 2 (by decide) (List.mem_of_getElem? (i := 3) rfl) rfl dX6_copyFrom_24 ?_
  refine zr_nwv (pc := 27) (As := [.ref (ad2 6), .ref (ad 6)]) (rest := []) S (ct_X7_copyRow l D cI cT H.size (ad2 6) (ad 6) 16 _ _ (by decide)) (va_cnB 2 hts gX6_copyFrom_X7_copyRow_n40 rfl rfl rfl (zK_nest hK 6 rfl) (hts _ (List.mem_of_getElem? (i := 11) rfl)) (by decide +kernel) ⟨Nat.le_of_ble_eq_true rfl, Nat.le_of_ble_eq_true rfl⟩) (hts _ (List.mem_of_getElem? (i := 10) rfl)) zs0 hK ⟨(hP2 6 (by decide)), (hP 6 (by decide))⟩ hS (fun q h => h.elim (fun e => by rw [e]; exact (hAin 6 (by decide))) (fun z => hAn q (Nat.le_trans hS.1 z))) rfl hl.1 rfl (Nat.le_of_ble_eq_true rfl) dX6_copyFrom_27 ⟨Nat.le_of_ble_eq_true rfl, Nat.le_of_ble_eq_true rfl⟩ (fun H locs hG hz hk hS => ?_)
  have hP2 := hP2.keep (A1 := fun q => q = ad 6) (fun q h z => hk q h (fun y => y.elim z (fun y => absurd h (Nat.not_lt.mpr y)))) (fun k h e => hdj 6 k (by decide) h e.symm)
  have hP := zW.put hP hJ 6 (by decide) hG (fun q h1 h2 => hk q h1 (fun z => z.elim h2 (fun y => absurd h1 (Nat.not_lt.mpr y)))) (sC_b 6 (by decide) _)
  refine lv_aload_n (pc := 30) hx hb dX6_copyFrom_30 rfl (lv_at hl 1 rfl) ?_
  refine zr_get (pc := 31) S hK (hP2 1 (by decide)) rfl i_X6 3 (by decide) (List.mem_of_getElem? (i := 4) rfl) rfl dX6_copyFrom_31 ?_
  refine lv_aload_n (pc := 34) hx hb dX6_copyFrom_34 rfl (lv_at hl 0 rfl) ?_
  refine zr_get (pc := 35) S hK (hP 1 (by decide)) rfl i_X6 3 (by decide) (List.mem_of_getElem? (i := 4) rfl) rfl dX6_copyFrom_35 ?_
  refine zr_nwv (pc := 38) (As := [.ref (ad2 7), .ref (ad 7)]) (rest := []) S (ct_X7_copyRow l D cI cT H.size (ad2 7) (ad 7) 16 _ _ (by decide)) (va_cnB 2 hts gX6_copyFrom_X7_copyRow_n40 rfl rfl rfl (zK_nest hK 6 rfl) (hts _ (List.mem_of_getElem? (i := 11) rfl)) (by decide +kernel) ⟨Nat.le_of_ble_eq_true rfl, Nat.le_of_ble_eq_true rfl⟩) (hts _ (List.mem_of_getElem? (i := 10) rfl)) zs0 hK ⟨(hP2 7 (by decide)), (hP 7 (by decide))⟩ hS (fun q h => h.elim (fun e => by rw [e]; exact (hAin 7 (by decide))) (fun z => hAn q (Nat.le_trans hS.1 z))) rfl hl.1 rfl (Nat.le_of_ble_eq_true rfl) dX6_copyFrom_38 ⟨Nat.le_of_ble_eq_true rfl, Nat.le_of_ble_eq_true rfl⟩ (fun H locs hG hz hk hS => ?_)
  have hP2 := hP2.keep (A1 := fun q => q = ad 7) (fun q h z => hk q h (fun y => y.elim z (fun y => absurd h (Nat.not_lt.mpr y)))) (fun k h e => hdj 7 k (by decide) h e.symm)
  have hP := zW.put hP hJ 7 (by decide) hG (fun q h1 h2 => hk q h1 (fun z => z.elim h2 (fun y => absurd h1 (Nat.not_lt.mpr y)))) (sC_b 7 (by decide) _)
  refine lv_aload_n (pc := 41) hx hb dX6_copyFrom_41 rfl (lv_at hl 1 rfl) ?_
  refine zr_get (pc := 42) S hK (hP2 1 (by decide)) rfl i_X6 4 (by decide) (List.mem_of_getElem? (i := 5) rfl) rfl dX6_copyFrom_42 ?_
  refine lv_aload_n (pc := 45) hx hb dX6_copyFrom_45 rfl (lv_at hl 0 rfl) ?_
  refine zr_get (pc := 46) S hK (hP 1 (by decide)) rfl i_X6 4 (by decide) (List.mem_of_getElem? (i := 5) rfl) rfl dX6_copyFrom_46 ?_
  refine zr_nwv (pc := 49) (As := [.ref (ad2 8), .ref (ad 8)]) (rest := []) S (ct_X7_copyRow l D cI cT H.size (ad2 8) (ad 8) 16 _ _ (by decide)) (va_cnB 2 hts gX6_copyFrom_X7_copyRow_n40 rfl rfl rfl (zK_nest hK 6 rfl) (hts _ (List.mem_of_getElem? (i := 11) rfl)) (by decide +kernel) ⟨Nat.le_of_ble_eq_true rfl, Nat.le_of_ble_eq_true rfl⟩) (hts _ (List.mem_of_getElem? (i := 10) rfl)) zs0 hK ⟨(hP2 8 (by decide)), (hP 8 (by decide))⟩ hS (fun q h => h.elim (fun e => by rw [e]; exact (hAin 8 (by decide))) (fun z => hAn q (Nat.le_trans hS.1 z))) rfl hl.1 rfl (Nat.le_of_ble_eq_true rfl) dX6_copyFrom_49 ⟨Nat.le_of_ble_eq_true rfl, Nat.le_of_ble_eq_true rfl⟩ (fun H locs hG hz hk hS => ?_)
  have hP2 := hP2.keep (A1 := fun q => q = ad 8) (fun q h z => hk q h (fun y => y.elim z (fun y => absurd h (Nat.not_lt.mpr y)))) (fun k h e => hdj 8 k (by decide) h e.symm)
  have hP := zW.put hP hJ 8 (by decide) hG (fun q h1 h2 => hk q h1 (fun z => z.elim h2 (fun y => absurd h1 (Nat.not_lt.mpr y)))) (sC_b 8 (by decide) _)
  refine lv_aload_n (pc := 52) hx hb dX6_copyFrom_52 rfl (lv_at hl 1 rfl) ?_
  refine zr_get (pc := 53) S hK (hP2 1 (by decide)) rfl i_X6 5 (by decide) (List.mem_of_getElem? (i := 6) rfl) rfl dX6_copyFrom_53 ?_
  refine lv_aload_n (pc := 56) hx hb dX6_copyFrom_56 rfl (lv_at hl 0 rfl) ?_
  refine zr_get (pc := 57) S hK (hP 1 (by decide)) rfl i_X6 5 (by decide) (List.mem_of_getElem? (i := 6) rfl) rfl dX6_copyFrom_57 ?_
  refine zr_nwv (pc := 60) (As := [.ref (ad2 9), .ref (ad 9)]) (rest := []) S (ct_X7_copyRow l D cI cT H.size (ad2 9) (ad 9) 16 _ _ (by decide)) (va_cnB 2 hts gX6_copyFrom_X7_copyRow_n40 rfl rfl rfl (zK_nest hK 6 rfl) (hts _ (List.mem_of_getElem? (i := 11) rfl)) (by decide +kernel) ⟨Nat.le_of_ble_eq_true rfl, Nat.le_of_ble_eq_true rfl⟩) (hts _ (List.mem_of_getElem? (i := 10) rfl)) zs0 hK ⟨(hP2 9 (by decide)), (hP 9 (by decide))⟩ hS (fun q h => h.elim (fun e => by rw [e]; exact (hAin 9 (by decide))) (fun z => hAn q (Nat.le_trans hS.1 z))) rfl hl.1 rfl (Nat.le_of_ble_eq_true rfl) dX6_copyFrom_60 ⟨Nat.le_of_ble_eq_true rfl, Nat.le_of_ble_eq_true rfl⟩ (fun H locs hG hz hk hS => ?_)
  have hP2 := hP2.keep (A1 := fun q => q = ad 9) (fun q h z => hk q h (fun y => y.elim z (fun y => absurd h (Nat.not_lt.mpr y)))) (fun k h e => hdj 9 k (by decide) h e.symm)
  have hP := zW.put hP hJ 9 (by decide) hG (fun q h1 h2 => hk q h1 (fun z => z.elim h2 (fun y => absurd h1 (Nat.not_lt.mpr y)))) (sC_b 9 (by decide) _)
  refine lv_aload_n (pc := 63) hx hb dX6_copyFrom_63 rfl (lv_at hl 1 rfl) ?_
  refine zr_get (pc := 64) S hK (hP2 1 (by decide)) rfl i_X6 6 (by decide) (List.mem_of_getElem? (i := 7) rfl) rfl dX6_copyFrom_64 ?_
  refine lv_aload_n (pc := 67) hx hb dX6_copyFrom_67 rfl (lv_at hl 0 rfl) ?_
  refine zr_get (pc := 68) S hK (hP 1 (by decide)) rfl i_X6 6 (by decide) (List.mem_of_getElem? (i := 7) rfl) rfl dX6_copyFrom_68 ?_
  refine zr_nwv (pc := 71) (As := [.ref (ad2 10), .ref (ad 10)]) (rest := []) S (ct_X7_copyRow l D cI cT H.size (ad2 10) (ad 10) 16 _ _ (by decide)) (va_cnB 2 hts gX6_copyFrom_X7_copyRow_n40 rfl rfl rfl (zK_nest hK 6 rfl) (hts _ (List.mem_of_getElem? (i := 11) rfl)) (by decide +kernel) ⟨Nat.le_of_ble_eq_true rfl, Nat.le_of_ble_eq_true rfl⟩) (hts _ (List.mem_of_getElem? (i := 10) rfl)) zs0 hK ⟨(hP2 10 (by decide)), (hP 10 (by decide))⟩ hS (fun q h => h.elim (fun e => by rw [e]; exact (hAin 10 (by decide))) (fun z => hAn q (Nat.le_trans hS.1 z))) rfl hl.1 rfl (Nat.le_of_ble_eq_true rfl) dX6_copyFrom_71 ⟨Nat.le_of_ble_eq_true rfl, Nat.le_of_ble_eq_true rfl⟩ (fun H locs hG hz hk hS => ?_)
  have hP2 := hP2.keep (A1 := fun q => q = ad 10) (fun q h z => hk q h (fun y => y.elim z (fun y => absurd h (Nat.not_lt.mpr y)))) (fun k h e => hdj 10 k (by decide) h e.symm)
  have hP := zW.put hP hJ 10 (by decide) hG (fun q h1 h2 => hk q h1 (fun z => z.elim h2 (fun y => absurd h1 (Nat.not_lt.mpr y)))) (sC_b 10 (by decide) _)
  refine lv_aload_n (pc := 74) hx hb dX6_copyFrom_74 rfl (lv_at hl 1 rfl) ?_
  refine zr_get (pc := 75) S hK (hP2 1 (by decide)) rfl i_X6 7 (by decide) (List.mem_of_getElem? (i := 8) rfl) rfl dX6_copyFrom_75 ?_
  refine lv_aload_n (pc := 78) hx hb dX6_copyFrom_78 rfl (lv_at hl 0 rfl) ?_
  refine zr_get (pc := 79) S hK (hP 1 (by decide)) rfl i_X6 7 (by decide) (List.mem_of_getElem? (i := 8) rfl) rfl dX6_copyFrom_79 ?_
  refine zr_nwv (pc := 82) (As := [.ref (ad2 11), .ref (ad 11)]) (rest := []) S (ct_X7_copyRow l D cI cT H.size (ad2 11) (ad 11) 96 _ _ (by decide)) (va_cnB 2 hts gX6_copyFrom_X7_copyRow_n40 rfl rfl rfl (zK_nest hK 6 rfl) (hts _ (List.mem_of_getElem? (i := 11) rfl)) (by decide +kernel) ⟨Nat.le_of_ble_eq_true rfl, Nat.le_of_ble_eq_true rfl⟩) (hts _ (List.mem_of_getElem? (i := 10) rfl)) zs0 hK ⟨(hP2 11 (by decide)), (hP 11 (by decide))⟩ hS (fun q h => h.elim (fun e => by rw [e]; exact (hAin 11 (by decide))) (fun z => hAn q (Nat.le_trans hS.1 z))) rfl hl.1 rfl (Nat.le_of_ble_eq_true rfl) dX6_copyFrom_82 ⟨Nat.le_of_ble_eq_true rfl, Nat.le_of_ble_eq_true rfl⟩ (fun H locs hG hz hk hS => ?_)
  have hP2 := hP2.keep (A1 := fun q => q = ad 11) (fun q h z => hk q h (fun y => y.elim z (fun y => absurd h (Nat.not_lt.mpr y)))) (fun k h e => hdj 11 k (by decide) h e.symm)
  have hP := zW.put hP hJ 11 (by decide) hG (fun q h1 h2 => hk q h1 (fun z => z.elim h2 (fun y => absurd h1 (Nat.not_lt.mpr y)))) (sC_b 11 (by decide) _)
  refine lv_aload_n (pc := 85) hx hb dX6_copyFrom_85 rfl (lv_at hl 1 rfl) ?_
  refine zr_get (pc := 86) S hK (hP2 1 (by decide)) rfl i_X6 8 (by decide) (List.mem_of_getElem? (i := 9) rfl) rfl dX6_copyFrom_86 ?_
  refine lv_aload_n (pc := 89) hx hb dX6_copyFrom_89 rfl (lv_at hl 0 rfl) ?_
  refine zr_get (pc := 90) S hK (hP 1 (by decide)) rfl i_X6 8 (by decide) (List.mem_of_getElem? (i := 9) rfl) rfl dX6_copyFrom_90 ?_
  refine zr_nwv (pc := 93) (As := [.ref (ad2 12), .ref (ad 12)]) (rest := []) S (ct_X7_copyRow l D cI cT H.size (ad2 12) (ad 12) 96 _ _ (by decide)) (va_cnB 2 hts gX6_copyFrom_X7_copyRow_n40 rfl rfl rfl (zK_nest hK 6 rfl) (hts _ (List.mem_of_getElem? (i := 11) rfl)) (by decide +kernel) ⟨Nat.le_of_ble_eq_true rfl, Nat.le_of_ble_eq_true rfl⟩) (hts _ (List.mem_of_getElem? (i := 10) rfl)) zs0 hK ⟨(hP2 12 (by decide)), (hP 12 (by decide))⟩ hS (fun q h => h.elim (fun e => by rw [e]; exact (hAin 12 (by decide))) (fun z => hAn q (Nat.le_trans hS.1 z))) rfl hl.1 rfl (Nat.le_of_ble_eq_true rfl) dX6_copyFrom_93 ⟨Nat.le_of_ble_eq_true rfl, Nat.le_of_ble_eq_true rfl⟩ (fun H locs hG hz hk hS => ?_)
  have hP2 := hP2.keep (A1 := fun q => q = ad 12) (fun q h z => hk q h (fun y => y.elim z (fun y => absurd h (Nat.not_lt.mpr y)))) (fun k h e => hdj 12 k (by decide) h e.symm)
  have hP := zW.put hP hJ 12 (by decide) hG (fun q h1 h2 => hk q h1 (fun z => z.elim h2 (fun y => absurd h1 (Nat.not_lt.mpr y)))) (sC_b 12 (by decide) _)
  exact W.vret hx hb hr (fun tz ht hW => ⟨⟨(), rfl, trivial, by dsimp only; rw [ht]; exact hP⟩, hS.F ht⟩) hS.2.2 dX6_copyFrom_96
set_option maxHeartbeats 4000000 in
set_option maxRecDepth 100000 in
theorem ct_X0_copyFrom (l : Launch) (D : va_G) (cI cT : ClassId) (sz : Nat) (ad ad2 : Nat → Nat) (σ σ2 : Nat → Int → Int) (hJ : zJ ad 20) (hdj : ∀ i j : Nat, i < 20 → j < 20 → ad i ≠ ad2 j) : zMv l yX0_copyFrom wsX0_copyFrom ({ frames := 2, cells := 0, slots := 0, locals := 51 }) D cI cT [.ref (ad 2), .ref (ad2 2)] sz (fun _ H => zW D ad 20 (sC cI ad σ) H ∧ zW D ad2 20 (sC cI ad2 σ2) H) (fun H => zW D ad 20 (sC cI ad (cpA σ σ2)) H) (zR ad 20 sz) := by
  refine Met.ofW (cc := cX0_copyFrom) (maxL := 2) (ret := none) (by decide) rfl ?_
  intro p_ e_ s m_ args below meth c_ s₁ B hml hv
  obtain ⟨rfl, hsz, hK, hF⟩ := hv
  have hx := B.exec
  have hb := B.bytes
  have hr := B.returns
  have hts := atoms_spec (ws := wsX0_copyFrom) B.pre
  have hown : s.vm.findClass RX0 = some m_.cls := findClass_of_methodNamed B.named
  have hlocks := B.notSynchronized
  have S : CallFix p_ m_ c_ cX0_copyFrom 2 s _ wsX0_copyFrom RX0 := ⟨hx, hb, hml, hown, hts⟩
  have i_X0 : ∀ w ∈ u_ws RX0 TX0 3, w ∈ wsX0_copyFrom := fun _ h => List.mem_cons_of_mem _ (List.mem_append_right _ h)
  subst hsz
  generalize hAe : (zR ad 20 s.heap.size) = A
  have hAn : ∀ q : Nat, s.heap.size ≤ q → A q := fun q h => by rw [← hAe]; exact Or.inr h
  obtain ⟨H, hHe⟩ : ∃ H : Heap, H = s.heap := ⟨_, rfl⟩
  rw [← hHe] at hF ⊢
  have hS : va_S A s.heap H [] := by rw [hHe]; exact va_S.rf
  have hP := hF.1
  have hP2 := hF.2
  have hAin : ∀ k : Nat, k < 20 → A (ad k) := fun k hk => by rw [← hAe]; exact Or.inl ⟨k, hk, rfl⟩
  have hl := lv_entry ([.ref (ad 2), .ref (ad2 2)]) (n := 2) (Nat.le_of_ble_eq_true rfl)
  rw [lg_entry_eq]
  generalize (lg_sl ([.ref (ad 2), .ref (ad2 2)]) ++ List.replicate (2 - (lg_sl ([.ref (ad 2), .ref (ad2 2)])).length) Slot.unset).toArray = ls at hl ⊢
  have hl : lv_has ls 2 [(0, .ref (ad 2)), (1, .ref (ad2 2))] := hl
  refine lv_aload_n (pc := 0) hx hb dX0_copyFrom_0 rfl (lv_at hl 0 rfl) ?_
  refine lv_aload_n (pc := 1) hx hb dX0_copyFrom_1 rfl (lv_at hl 1 rfl) ?_
  refine zr_get (pc := 2) S hK (hP2 2 (by decide)) rfl i_X0 0 (by decide) (List.mem_of_getElem? (i := 1) rfl) rfl dX0_copyFrom_2 ?_
  refine zr_put (pc := 5) S hK (hP 2 (by decide)) rfl i_X0 tyX0 tyX0_ok nmX0 0 (by decide) (List.mem_of_getElem? (i := 1) rfl) rfl rfl rfl (Nat.le_of_ble_eq_true rfl) hS (hAin 2 (by decide)) dX0_copyFrom_5 (fun H locs hO hz hk hS => ?_)
  have hP2 := hP2.keep (A1 := fun q => q = ad 2) (fun q h z => hk q h z) (fun k h e => hdj 2 k (by decide) h e.symm)
  have hP := zW.put hP hJ 2 (by decide) hO hk (sC_2_0 (σ2 2 0))
  refine lv_aload_n (pc := 8) hx hb dX0_copyFrom_8 rfl (lv_at hl 1 rfl) ?_
  refine zr_get (pc := 9) S hK (hP2 2 (by decide)) rfl i_X0 1 (by decide) (List.mem_of_getElem? (i := 2) rfl) rfl dX0_copyFrom_9 ?_
  refine lv_aload_n (pc := 12) hx hb dX0_copyFrom_12 rfl (lv_at hl 0 rfl) ?_
  refine zr_get (pc := 13) S hK (hP 2 (by decide)) rfl i_X0 1 (by decide) (List.mem_of_getElem? (i := 2) rfl) rfl dX0_copyFrom_13 ?_
  refine zr_nwv (pc := 16) (As := [.ref (ad2 13), .ref (ad 13)]) (rest := []) S (ct_X7_copyRow l D cI cT H.size (ad2 13) (ad 13) 24 _ _ (by decide)) (va_cnB 2 hts gX0_copyFrom_X7_copyRow_n22 rfl rfl rfl (zK_nest hK 7 rfl) (hts _ (List.mem_of_getElem? (i := 5) rfl)) (by decide +kernel) ⟨Nat.le_of_ble_eq_true rfl, Nat.le_of_ble_eq_true rfl⟩) (hts _ (List.mem_of_getElem? (i := 4) rfl)) zs0 hK ⟨(hP2 13 (by decide)), (hP 13 (by decide))⟩ hS (fun q h => h.elim (fun e => by rw [e]; exact (hAin 13 (by decide))) (fun z => hAn q (Nat.le_trans hS.1 z))) rfl hl.1 rfl (Nat.le_of_ble_eq_true rfl) dX0_copyFrom_16 ⟨Nat.le_of_ble_eq_true rfl, Nat.le_of_ble_eq_true rfl⟩ (fun H locs hG hz hk hS => ?_)
  have hP2 := hP2.keep (A1 := fun q => q = ad 13) (fun q h z => hk q h (fun y => y.elim z (fun y => absurd h (Nat.not_lt.mpr y)))) (fun k h e => hdj 13 k (by decide) h e.symm)
  have hP := zW.put hP hJ 13 (by decide) hG (fun q h1 h2 => hk q h1 (fun z => z.elim h2 (fun y => absurd h1 (Nat.not_lt.mpr y)))) (sC_b 13 (by decide) _)
  refine lv_aload_n (pc := 19) hx hb dX0_copyFrom_19 rfl (lv_at hl 1 rfl) ?_
  refine zr_get (pc := 20) S hK (hP2 2 (by decide)) rfl i_X0 2 (by decide) (List.mem_of_getElem? (i := 3) rfl) rfl dX0_copyFrom_20 ?_
  refine lv_aload_n (pc := 23) hx hb dX0_copyFrom_23 rfl (lv_at hl 0 rfl) ?_
  refine zr_get (pc := 24) S hK (hP 2 (by decide)) rfl i_X0 2 (by decide) (List.mem_of_getElem? (i := 3) rfl) rfl dX0_copyFrom_24 ?_
  refine zr_nwv (pc := 27) (As := [.ref (ad2 14), .ref (ad 14)]) (rest := []) S (ct_X7_copyRow l D cI cT H.size (ad2 14) (ad 14) 96 _ _ (by decide)) (va_cnB 2 hts gX0_copyFrom_X7_copyRow_n22 rfl rfl rfl (zK_nest hK 7 rfl) (hts _ (List.mem_of_getElem? (i := 5) rfl)) (by decide +kernel) ⟨Nat.le_of_ble_eq_true rfl, Nat.le_of_ble_eq_true rfl⟩) (hts _ (List.mem_of_getElem? (i := 4) rfl)) zs0 hK ⟨(hP2 14 (by decide)), (hP 14 (by decide))⟩ hS (fun q h => h.elim (fun e => by rw [e]; exact (hAin 14 (by decide))) (fun z => hAn q (Nat.le_trans hS.1 z))) rfl hl.1 rfl (Nat.le_of_ble_eq_true rfl) dX0_copyFrom_27 ⟨Nat.le_of_ble_eq_true rfl, Nat.le_of_ble_eq_true rfl⟩ (fun H locs hG hz hk hS => ?_)
  have hP2 := hP2.keep (A1 := fun q => q = ad 14) (fun q h z => hk q h (fun y => y.elim z (fun y => absurd h (Nat.not_lt.mpr y)))) (fun k h e => hdj 14 k (by decide) h e.symm)
  have hP := zW.put hP hJ 14 (by decide) hG (fun q h1 h2 => hk q h1 (fun z => z.elim h2 (fun y => absurd h1 (Nat.not_lt.mpr y)))) (sC_b 14 (by decide) _)
  exact W.vret hx hb hr (fun tz ht hW => ⟨⟨(), rfl, trivial, by dsimp only; rw [ht]; exact hP⟩, hS.F ht⟩) hS.2.2 dX0_copyFrom_30
set_option maxHeartbeats 4000000 in
set_option maxRecDepth 100000 in
theorem ct_X1_copyFrom (l : Launch) (D : va_G) (cI cT : ClassId) (sz : Nat) (ad ad2 : Nat → Nat) (σ σ2 : Nat → Int → Int) (hJ : zJ ad 20) (hdj : ∀ i j : Nat, i < 20 → j < 20 → ad i ≠ ad2 j) : zMv l yX1_copyFrom wsX1_copyFrom ({ frames := 2, cells := 0, slots := 0, locals := 51 }) D cI cT [.ref (ad 3), .ref (ad2 3)] sz (fun _ H => zW D ad 20 (sC cI ad σ) H ∧ zW D ad2 20 (sC cI ad2 σ2) H) (fun H => zW D ad 20 (sC cI ad (cpH σ σ2)) H) (zR ad 20 sz) := by
  refine Met.ofW (cc := cX1_copyFrom) (maxL := 2) (ret := none) (by decide) rfl ?_
  intro p_ e_ s m_ args below meth c_ s₁ B hml hv
  obtain ⟨rfl, hsz, hK, hF⟩ := hv
  have hx := B.exec
  have hb := B.bytes
  have hr := B.returns
  have hts := atoms_spec (ws := wsX1_copyFrom) B.pre
  have hown : s.vm.findClass RX1 = some m_.cls := findClass_of_methodNamed B.named
  have hlocks := B.notSynchronized
  have S : CallFix p_ m_ c_ cX1_copyFrom 2 s _ wsX1_copyFrom RX1 := ⟨hx, hb, hml, hown, hts⟩
  have i_X1 : ∀ w ∈ u_ws RX1 TX1 6, w ∈ wsX1_copyFrom := fun _ h => List.mem_cons_of_mem _ (List.mem_append_right _ h)
  subst hsz
  generalize hAe : (zR ad 20 s.heap.size) = A
  have hAn : ∀ q : Nat, s.heap.size ≤ q → A q := fun q h => by rw [← hAe]; exact Or.inr h
  obtain ⟨H, hHe⟩ : ∃ H : Heap, H = s.heap := ⟨_, rfl⟩
  rw [← hHe] at hF ⊢
  have hS : va_S A s.heap H [] := by rw [hHe]; exact va_S.rf
  have hP := hF.1
  have hP2 := hF.2
  have hAin : ∀ k : Nat, k < 20 → A (ad k) := fun k hk => by rw [← hAe]; exact Or.inl ⟨k, hk, rfl⟩
  have hl := lv_entry ([.ref (ad 3), .ref (ad2 3)]) (n := 2) (Nat.le_of_ble_eq_true rfl)
  rw [lg_entry_eq]
  generalize (lg_sl ([.ref (ad 3), .ref (ad2 3)]) ++ List.replicate (2 - (lg_sl ([.ref (ad 3), .ref (ad2 3)])).length) Slot.unset).toArray = ls at hl ⊢
  have hl : lv_has ls 2 [(0, .ref (ad 3)), (1, .ref (ad2 3))] := hl
  refine lv_aload_n (pc := 0) hx hb dX1_copyFrom_0 rfl (lv_at hl 0 rfl) ?_
  refine lv_aload_n (pc := 1) hx hb dX1_copyFrom_1 rfl (lv_at hl 1 rfl) ?_
  refine zr_get (pc := 2) S hK (hP2 3 (by decide)) rfl i_X1 0 (by decide) (List.mem_of_getElem? (i := 1) rfl) rfl dX1_copyFrom_2 ?_
  refine zr_put (pc := 5) S hK (hP 3 (by decide)) rfl i_X1 tyX1 tyX1_ok nmX1 0 (by decide) (List.mem_of_getElem? (i := 1) rfl) rfl rfl rfl (Nat.le_of_ble_eq_true rfl) hS (hAin 3 (by decide)) dX1_copyFrom_5 (fun H locs hO hz hk hS => ?_)
  have hP2 := hP2.keep (A1 := fun q => q = ad 3) (fun q h z => hk q h z) (fun k h e => hdj 3 k (by decide) h e.symm)
  have hP := zW.put hP hJ 3 (by decide) hO hk (sC_3_0 (σ2 3 0))
  refine lv_aload_n (pc := 8) hx hb dX1_copyFrom_8 rfl (lv_at hl 1 rfl) ?_
  refine zr_get (pc := 9) S hK (hP2 3 (by decide)) rfl i_X1 1 (by decide) (List.mem_of_getElem? (i := 2) rfl) rfl dX1_copyFrom_9 ?_
  refine lv_aload_n (pc := 12) hx hb dX1_copyFrom_12 rfl (lv_at hl 0 rfl) ?_
  refine zr_get (pc := 13) S hK (hP 3 (by decide)) rfl i_X1 1 (by decide) (List.mem_of_getElem? (i := 2) rfl) rfl dX1_copyFrom_13 ?_
  refine zr_nwv (pc := 16) (As := [.ref (ad2 15), .ref (ad 15)]) (rest := []) S (ct_X7_copyRow l D cI cT H.size (ad2 15) (ad 15) 24 _ _ (by decide)) (va_cnB 2 hts gX1_copyFrom_X7_copyRow_n31 rfl rfl rfl (zK_nest hK 8 rfl) (hts _ (List.mem_of_getElem? (i := 8) rfl)) (by decide +kernel) ⟨Nat.le_of_ble_eq_true rfl, Nat.le_of_ble_eq_true rfl⟩) (hts _ (List.mem_of_getElem? (i := 7) rfl)) zs0 hK ⟨(hP2 15 (by decide)), (hP 15 (by decide))⟩ hS (fun q h => h.elim (fun e => by rw [e]; exact (hAin 15 (by decide))) (fun z => hAn q (Nat.le_trans hS.1 z))) rfl hl.1 rfl (Nat.le_of_ble_eq_true rfl) dX1_copyFrom_16 ⟨Nat.le_of_ble_eq_true rfl, Nat.le_of_ble_eq_true rfl⟩ (fun H locs hG hz hk hS => ?_)
  have hP2 := hP2.keep (A1 := fun q => q = ad 15) (fun q h z => hk q h (fun y => y.elim z (fun y => absurd h (Nat.not_lt.mpr y)))) (fun k h e => hdj 15 k (by decide) h e.symm)
  have hP := zW.put hP hJ 15 (by decide) hG (fun q h1 h2 => hk q h1 (fun z => z.elim h2 (fun y => absurd h1 (Nat.not_lt.mpr y)))) (sC_b 15 (by decide) _)
  refine lv_aload_n (pc := 19) hx hb dX1_copyFrom_19 rfl (lv_at hl 1 rfl) ?_
  refine zr_get (pc := 20) S hK (hP2 3 (by decide)) rfl i_X1 2 (by decide) (List.mem_of_getElem? (i := 3) rfl) rfl dX1_copyFrom_20 ?_
  refine lv_aload_n (pc := 23) hx hb dX1_copyFrom_23 rfl (lv_at hl 0 rfl) ?_
  refine zr_get (pc := 24) S hK (hP 3 (by decide)) rfl i_X1 2 (by decide) (List.mem_of_getElem? (i := 3) rfl) rfl dX1_copyFrom_24 ?_
  refine zr_nwv (pc := 27) (As := [.ref (ad2 16), .ref (ad 16)]) (rest := []) S (ct_X7_copyRow l D cI cT H.size (ad2 16) (ad 16) 24 _ _ (by decide)) (va_cnB 2 hts gX1_copyFrom_X7_copyRow_n31 rfl rfl rfl (zK_nest hK 8 rfl) (hts _ (List.mem_of_getElem? (i := 8) rfl)) (by decide +kernel) ⟨Nat.le_of_ble_eq_true rfl, Nat.le_of_ble_eq_true rfl⟩) (hts _ (List.mem_of_getElem? (i := 7) rfl)) zs0 hK ⟨(hP2 16 (by decide)), (hP 16 (by decide))⟩ hS (fun q h => h.elim (fun e => by rw [e]; exact (hAin 16 (by decide))) (fun z => hAn q (Nat.le_trans hS.1 z))) rfl hl.1 rfl (Nat.le_of_ble_eq_true rfl) dX1_copyFrom_27 ⟨Nat.le_of_ble_eq_true rfl, Nat.le_of_ble_eq_true rfl⟩ (fun H locs hG hz hk hS => ?_)
  have hP2 := hP2.keep (A1 := fun q => q = ad 16) (fun q h z => hk q h (fun y => y.elim z (fun y => absurd h (Nat.not_lt.mpr y)))) (fun k h e => hdj 16 k (by decide) h e.symm)
  have hP := zW.put hP hJ 16 (by decide) hG (fun q h1 h2 => hk q h1 (fun z => z.elim h2 (fun y => absurd h1 (Nat.not_lt.mpr y)))) (sC_b 16 (by decide) _)
  refine lv_aload_n (pc := 30) hx hb dX1_copyFrom_30 rfl (lv_at hl 1 rfl) ?_
  refine zr_get (pc := 31) S hK (hP2 3 (by decide)) rfl i_X1 3 (by decide) (List.mem_of_getElem? (i := 4) rfl) rfl dX1_copyFrom_31 ?_
  refine lv_aload_n (pc := 34) hx hb dX1_copyFrom_34 rfl (lv_at hl 0 rfl) ?_
  refine zr_get (pc := 35) S hK (hP 3 (by decide)) rfl i_X1 3 (by decide) (List.mem_of_getElem? (i := 4) rfl) rfl dX1_copyFrom_35 ?_
  refine zr_nwv (pc := 38) (As := [.ref (ad2 17), .ref (ad 17)]) (rest := []) S (ct_X7_copyRow l D cI cT H.size (ad2 17) (ad 17) 24 _ _ (by decide)) (va_cnB 2 hts gX1_copyFrom_X7_copyRow_n31 rfl rfl rfl (zK_nest hK 8 rfl) (hts _ (List.mem_of_getElem? (i := 8) rfl)) (by decide +kernel) ⟨Nat.le_of_ble_eq_true rfl, Nat.le_of_ble_eq_true rfl⟩) (hts _ (List.mem_of_getElem? (i := 7) rfl)) zs0 hK ⟨(hP2 17 (by decide)), (hP 17 (by decide))⟩ hS (fun q h => h.elim (fun e => by rw [e]; exact (hAin 17 (by decide))) (fun z => hAn q (Nat.le_trans hS.1 z))) rfl hl.1 rfl (Nat.le_of_ble_eq_true rfl) dX1_copyFrom_38 ⟨Nat.le_of_ble_eq_true rfl, Nat.le_of_ble_eq_true rfl⟩ (fun H locs hG hz hk hS => ?_)
  have hP2 := hP2.keep (A1 := fun q => q = ad 17) (fun q h z => hk q h (fun y => y.elim z (fun y => absurd h (Nat.not_lt.mpr y)))) (fun k h e => hdj 17 k (by decide) h e.symm)
  have hP := zW.put hP hJ 17 (by decide) hG (fun q h1 h2 => hk q h1 (fun z => z.elim h2 (fun y => absurd h1 (Nat.not_lt.mpr y)))) (sC_b 17 (by decide) _)
  refine lv_aload_n (pc := 41) hx hb dX1_copyFrom_41 rfl (lv_at hl 1 rfl) ?_
  refine zr_get (pc := 42) S hK (hP2 3 (by decide)) rfl i_X1 4 (by decide) (List.mem_of_getElem? (i := 5) rfl) rfl dX1_copyFrom_42 ?_
  refine lv_aload_n (pc := 45) hx hb dX1_copyFrom_45 rfl (lv_at hl 0 rfl) ?_
  refine zr_get (pc := 46) S hK (hP 3 (by decide)) rfl i_X1 4 (by decide) (List.mem_of_getElem? (i := 5) rfl) rfl dX1_copyFrom_46 ?_
  refine zr_nwv (pc := 49) (As := [.ref (ad2 18), .ref (ad 18)]) (rest := []) S (ct_X7_copyRow l D cI cT H.size (ad2 18) (ad 18) 24 _ _ (by decide)) (va_cnB 2 hts gX1_copyFrom_X7_copyRow_n31 rfl rfl rfl (zK_nest hK 8 rfl) (hts _ (List.mem_of_getElem? (i := 8) rfl)) (by decide +kernel) ⟨Nat.le_of_ble_eq_true rfl, Nat.le_of_ble_eq_true rfl⟩) (hts _ (List.mem_of_getElem? (i := 7) rfl)) zs0 hK ⟨(hP2 18 (by decide)), (hP 18 (by decide))⟩ hS (fun q h => h.elim (fun e => by rw [e]; exact (hAin 18 (by decide))) (fun z => hAn q (Nat.le_trans hS.1 z))) rfl hl.1 rfl (Nat.le_of_ble_eq_true rfl) dX1_copyFrom_49 ⟨Nat.le_of_ble_eq_true rfl, Nat.le_of_ble_eq_true rfl⟩ (fun H locs hG hz hk hS => ?_)
  have hP2 := hP2.keep (A1 := fun q => q = ad 18) (fun q h z => hk q h (fun y => y.elim z (fun y => absurd h (Nat.not_lt.mpr y)))) (fun k h e => hdj 18 k (by decide) h e.symm)
  have hP := zW.put hP hJ 18 (by decide) hG (fun q h1 h2 => hk q h1 (fun z => z.elim h2 (fun y => absurd h1 (Nat.not_lt.mpr y)))) (sC_b 18 (by decide) _)
  refine lv_aload_n (pc := 52) hx hb dX1_copyFrom_52 rfl (lv_at hl 1 rfl) ?_
  refine zr_get (pc := 53) S hK (hP2 3 (by decide)) rfl i_X1 5 (by decide) (List.mem_of_getElem? (i := 6) rfl) rfl dX1_copyFrom_53 ?_
  refine lv_aload_n (pc := 56) hx hb dX1_copyFrom_56 rfl (lv_at hl 0 rfl) ?_
  refine zr_get (pc := 57) S hK (hP 3 (by decide)) rfl i_X1 5 (by decide) (List.mem_of_getElem? (i := 6) rfl) rfl dX1_copyFrom_57 ?_
  refine zr_nwv (pc := 60) (As := [.ref (ad2 19), .ref (ad 19)]) (rest := []) S (ct_X7_copyRow l D cI cT H.size (ad2 19) (ad 19) 24 _ _ (by decide)) (va_cnB 2 hts gX1_copyFrom_X7_copyRow_n31 rfl rfl rfl (zK_nest hK 8 rfl) (hts _ (List.mem_of_getElem? (i := 8) rfl)) (by decide +kernel) ⟨Nat.le_of_ble_eq_true rfl, Nat.le_of_ble_eq_true rfl⟩) (hts _ (List.mem_of_getElem? (i := 7) rfl)) zs0 hK ⟨(hP2 19 (by decide)), (hP 19 (by decide))⟩ hS (fun q h => h.elim (fun e => by rw [e]; exact (hAin 19 (by decide))) (fun z => hAn q (Nat.le_trans hS.1 z))) rfl hl.1 rfl (Nat.le_of_ble_eq_true rfl) dX1_copyFrom_60 ⟨Nat.le_of_ble_eq_true rfl, Nat.le_of_ble_eq_true rfl⟩ (fun H locs hG hz hk hS => ?_)
  have hP2 := hP2.keep (A1 := fun q => q = ad 19) (fun q h z => hk q h (fun y => y.elim z (fun y => absurd h (Nat.not_lt.mpr y)))) (fun k h e => hdj 19 k (by decide) h e.symm)
  have hP := zW.put hP hJ 19 (by decide) hG (fun q h1 h2 => hk q h1 (fun z => z.elim h2 (fun y => absurd h1 (Nat.not_lt.mpr y)))) (sC_b 19 (by decide) _)
  exact W.vret hx hb hr (fun tz ht hW => ⟨⟨(), rfl, trivial, by dsimp only; rw [ht]; exact hP⟩, hS.F ht⟩) hS.2.2 dX1_copyFrom_63
set_option maxHeartbeats 4000000 in
set_option maxRecDepth 100000 in
theorem ct_X4_become (l : Launch) (D : va_G) (cI cT : ClassId) (sz : Nat) (ad ad2 : Nat → Nat) (σ σ2 : Nat → Int → Int) (hJ : zJ ad 20) (hdj : ∀ i j : Nat, i < 20 → j < 20 → ad i ≠ ad2 j) : zMv l yX4_become wsX4_become ({ frames := 3, cells := 0, slots := 0, locals := 72 }) D cI cT [.ref (ad 0), .ref (ad2 0)] sz (fun _ H => zW D ad 20 (sC cI ad σ) H ∧ zW D ad2 20 (sC cI ad2 σ2) H) (fun H => zW D ad 20 (sC cI ad (cpS σ σ2)) H) (zR ad 20 sz) := by
  refine Met.ofW (cc := cX4_become) (maxL := 2) (ret := none) (by decide) rfl ?_
  intro p_ e_ s m_ args below meth c_ s₁ B hml hv
  obtain ⟨rfl, hsz, hK, hF⟩ := hv
  have hx := B.exec
  have hb := B.bytes
  have hr := B.returns
  have hts := atoms_spec (ws := wsX4_become) B.pre
  have hown : s.vm.findClass RX4 = some m_.cls := findClass_of_methodNamed B.named
  have hlocks := B.notSynchronized
  have S : CallFix p_ m_ c_ cX4_become 2 s _ wsX4_become RX4 := ⟨hx, hb, hml, hown, hts⟩
  have i_X4 : ∀ w ∈ u_ws RX4 TX4 9, w ∈ wsX4_become := fun _ h => List.mem_cons_of_mem _ (List.mem_append_left _ (List.mem_append_left _ (List.mem_append_left _ (List.mem_append_right _ h))))
  subst hsz
  generalize hAe : (zR ad 20 s.heap.size) = A
  have hAn : ∀ q : Nat, s.heap.size ≤ q → A q := fun q h => by rw [← hAe]; exact Or.inr h
  obtain ⟨H, hHe⟩ : ∃ H : Heap, H = s.heap := ⟨_, rfl⟩
  rw [← hHe] at hF ⊢
  have hS : va_S A s.heap H [] := by rw [hHe]; exact va_S.rf
  have hP := hF.1
  have hP2 := hF.2
  have hAin : ∀ k : Nat, k < 20 → A (ad k) := fun k hk => by rw [← hAe]; exact Or.inl ⟨k, hk, rfl⟩
  have hl := lv_entry ([.ref (ad 0), .ref (ad2 0)]) (n := 2) (Nat.le_of_ble_eq_true rfl)
  rw [lg_entry_eq]
  generalize (lg_sl ([.ref (ad 0), .ref (ad2 0)]) ++ List.replicate (2 - (lg_sl ([.ref (ad 0), .ref (ad2 0)])).length) Slot.unset).toArray = ls at hl ⊢
  have hl : lv_has ls 2 [(0, .ref (ad 0)), (1, .ref (ad2 0))] := hl
  refine lv_aload_n (pc := 0) hx hb dX4_become_0 rfl (lv_at hl 0 rfl) ?_
  refine zr_get (pc := 1) S hK (hP 0 (by decide)) rfl i_X4 0 (by decide) (List.mem_of_getElem? (i := 1) rfl) rfl dX4_become_1 ?_
  refine lv_aload_n (pc := 4) hx hb dX4_become_4 rfl (lv_at hl 1 rfl) ?_
  refine zr_get (pc := 5) S hK (hP2 0 (by decide)) rfl i_X4 0 (by decide) (List.mem_of_getElem? (i := 1) rfl) rfl dX4_become_5 ?_
  refine zr_vwv (pc := 8) (As := [.ref (ad2 1)]) (rest := []) S (ct_X6_copyFrom l D cI cT H.size ad ad2 σ σ2 hJ hdj) (cwV 1 hts gX4_become_X6_copyFrom rfl rfl rfl (by decide +kernel) ⟨Nat.le_of_ble_eq_true rfl, Nat.le_of_ble_eq_true rfl⟩) zs0 hK ⟨hP, hP2⟩ (zr_recv hK (hP 1 (by decide)) rfl) hS (fun q h => h.elim (fun ⟨k, k0, e⟩ => by rw [e]; exact hAin k k0) (fun z => hAn q (Nat.le_trans hS.1 z))) rfl hl.1 rfl (Nat.le_of_ble_eq_true rfl) dX4_become_8 ⟨Nat.le_of_ble_eq_true rfl, Nat.le_of_ble_eq_true rfl⟩ (fun H locs hG hz hk hS => ?_)
  have hP2 := hP2.keep hk (fun k h z => z.elim (fun ⟨i, i0, e⟩ => hdj i k i0 h e.symm) (fun y => absurd (hP2.lt h) (Nat.not_lt.mpr y)))
  have hP := hG
  refine lv_aload_n (pc := 11) hx hb dX4_become_11 rfl (lv_at hl 0 rfl) ?_
  refine zr_get (pc := 12) S hK (hP 0 (by decide)) rfl i_X4 1 (by decide) (List.mem_of_getElem? (i := 2) rfl) rfl dX4_become_12 ?_
  refine lv_aload_n (pc := 15) hx hb dX4_become_15 rfl (lv_at hl 1 rfl) ?_
  refine zr_get (pc := 16) S hK (hP2 0 (by decide)) rfl i_X4 1 (by decide) (List.mem_of_getElem? (i := 2) rfl) rfl dX4_become_16 ?_
  refine zr_vwv (pc := 19) (As := [.ref (ad2 2)]) (rest := []) S (ct_X0_copyFrom l D cI cT H.size ad ad2 (cpW σ σ2) σ2 hJ hdj) (cwV 1 hts gX4_become_X0_copyFrom rfl rfl rfl (by decide +kernel) ⟨Nat.le_of_ble_eq_true rfl, Nat.le_of_ble_eq_true rfl⟩) zs0 hK ⟨hP, hP2⟩ (zr_recv hK (hP 2 (by decide)) rfl) hS (fun q h => h.elim (fun ⟨k, k0, e⟩ => by rw [e]; exact hAin k k0) (fun z => hAn q (Nat.le_trans hS.1 z))) rfl hl.1 rfl (Nat.le_of_ble_eq_true rfl) dX4_become_19 ⟨Nat.le_of_ble_eq_true rfl, Nat.le_of_ble_eq_true rfl⟩ (fun H locs hG hz hk hS => ?_)
  have hP2 := hP2.keep hk (fun k h z => z.elim (fun ⟨i, i0, e⟩ => hdj i k i0 h e.symm) (fun y => absurd (hP2.lt h) (Nat.not_lt.mpr y)))
  have hP := hG
  refine lv_aload_n (pc := 22) hx hb dX4_become_22 rfl (lv_at hl 0 rfl) ?_
  refine zr_get (pc := 23) S hK (hP 0 (by decide)) rfl i_X4 2 (by decide) (List.mem_of_getElem? (i := 3) rfl) rfl dX4_become_23 ?_
  refine lv_aload_n (pc := 26) hx hb dX4_become_26 rfl (lv_at hl 1 rfl) ?_
  refine zr_get (pc := 27) S hK (hP2 0 (by decide)) rfl i_X4 2 (by decide) (List.mem_of_getElem? (i := 3) rfl) rfl dX4_become_27 ?_
  refine zr_vwv (pc := 30) (As := [.ref (ad2 3)]) (rest := []) S (ct_X1_copyFrom l D cI cT H.size ad ad2 (cpA (cpW σ σ2) σ2) σ2 hJ hdj) (cwV 1 hts gX4_become_X1_copyFrom rfl rfl rfl (by decide +kernel) ⟨Nat.le_of_ble_eq_true rfl, Nat.le_of_ble_eq_true rfl⟩) zs0 hK ⟨hP, hP2⟩ (zr_recv hK (hP 3 (by decide)) rfl) hS (fun q h => h.elim (fun ⟨k, k0, e⟩ => by rw [e]; exact hAin k k0) (fun z => hAn q (Nat.le_trans hS.1 z))) rfl hl.1 rfl (Nat.le_of_ble_eq_true rfl) dX4_become_30 ⟨Nat.le_of_ble_eq_true rfl, Nat.le_of_ble_eq_true rfl⟩ (fun H locs hG hz hk hS => ?_)
  have hP2 := hP2.keep hk (fun k h z => z.elim (fun ⟨i, i0, e⟩ => hdj i k i0 h e.symm) (fun y => absurd (hP2.lt h) (Nat.not_lt.mpr y)))
  have hP := hG
  refine lv_aload_n (pc := 33) hx hb dX4_become_33 rfl (lv_at hl 1 rfl) ?_
  refine zr_get (pc := 34) S hK (hP2 0 (by decide)) rfl i_X4 3 (by decide) (List.mem_of_getElem? (i := 4) rfl) rfl dX4_become_34 ?_
  refine lv_aload_n (pc := 37) hx hb dX4_become_37 rfl (lv_at hl 0 rfl) ?_
  refine zr_get (pc := 38) S hK (hP 0 (by decide)) rfl i_X4 3 (by decide) (List.mem_of_getElem? (i := 4) rfl) rfl dX4_become_38 ?_
  refine zr_nwv (pc := 41) (As := [.ref (ad2 4), .ref (ad 4)]) (rest := []) S (ct_X7_copyRow l D cI cT H.size (ad2 4) (ad 4) 4 _ _ (by decide)) (va_cnB 2 hts gX4_become_X7_copyRow_n46 rfl rfl rfl (zK_nest hK 9 rfl) (hts _ (List.mem_of_getElem? (i := 25) rfl)) (by decide +kernel) ⟨Nat.le_of_ble_eq_true rfl, Nat.le_of_ble_eq_true rfl⟩) (hts _ (List.mem_of_getElem? (i := 24) rfl)) zs0 hK ⟨(hP2 4 (by decide)), (hP 4 (by decide))⟩ hS (fun q h => h.elim (fun e => by rw [e]; exact (hAin 4 (by decide))) (fun z => hAn q (Nat.le_trans hS.1 z))) rfl hl.1 rfl (Nat.le_of_ble_eq_true rfl) dX4_become_41 ⟨Nat.le_of_ble_eq_true rfl, Nat.le_of_ble_eq_true rfl⟩ (fun H locs hG hz hk hS => ?_)
  have hP2 := hP2.keep (A1 := fun q => q = ad 4) (fun q h z => hk q h (fun y => y.elim z (fun y => absurd h (Nat.not_lt.mpr y)))) (fun k h e => hdj 4 k (by decide) h e.symm)
  have hP := zW.put hP hJ 4 (by decide) hG (fun q h1 h2 => hk q h1 (fun z => z.elim h2 (fun y => absurd h1 (Nat.not_lt.mpr y)))) (sC_b 4 (by decide) _)
  refine lv_aload_n (pc := 44) hx hb dX4_become_44 rfl (lv_at hl 0 rfl) ?_
  refine lv_aload_n (pc := 45) hx hb dX4_become_45 rfl (lv_at hl 1 rfl) ?_
  refine zr_get (pc := 46) S hK (hP2 0 (by decide)) rfl i_X4 4 (by decide) (List.mem_of_getElem? (i := 5) rfl) rfl dX4_become_46 ?_
  refine zr_put (pc := 49) S hK (hP 0 (by decide)) rfl i_X4 tyX4 tyX4_ok nmX4 4 (by decide) (List.mem_of_getElem? (i := 5) rfl) rfl rfl rfl (Nat.le_of_ble_eq_true rfl) hS (hAin 0 (by decide)) dX4_become_49 (fun H locs hO hz hk hS => ?_)
  have hP2 := hP2.keep (A1 := fun q => q = ad 0) (fun q h z => hk q h z) (fun k h e => hdj 0 k (by decide) h e.symm)
  have hP := zW.put hP hJ 0 (by decide) hO hk (sC_0_0 (σ2 0 0))
  refine lv_aload_n (pc := 52) hx hb dX4_become_52 rfl (lv_at hl 0 rfl) ?_
  refine lv_aload_n (pc := 53) hx hb dX4_become_53 rfl (lv_at hl 1 rfl) ?_
  refine zr_get (pc := 54) S hK (hP2 0 (by decide)) rfl i_X4 5 (by decide) (List.mem_of_getElem? (i := 6) rfl) rfl dX4_become_54 ?_
  refine zr_put (pc := 57) S hK (hP 0 (by decide)) rfl i_X4 tyX4 tyX4_ok nmX4 5 (by decide) (List.mem_of_getElem? (i := 6) rfl) rfl rfl rfl (Nat.le_of_ble_eq_true rfl) hS (hAin 0 (by decide)) dX4_become_57 (fun H locs hO hz hk hS => ?_)
  have hP2 := hP2.keep (A1 := fun q => q = ad 0) (fun q h z => hk q h z) (fun k h e => hdj 0 k (by decide) h e.symm)
  have hP := zW.put hP hJ 0 (by decide) hO hk (sC_0_1 (σ2 0 1))
  refine lv_aload_n (pc := 60) hx hb dX4_become_60 rfl (lv_at hl 0 rfl) ?_
  refine lv_aload_n (pc := 61) hx hb dX4_become_61 rfl (lv_at hl 1 rfl) ?_
  refine zr_get (pc := 62) S hK (hP2 0 (by decide)) rfl i_X4 6 (by decide) (List.mem_of_getElem? (i := 7) rfl) rfl dX4_become_62 ?_
  refine zr_put (pc := 65) S hK (hP 0 (by decide)) rfl i_X4 tyX4 tyX4_ok nmX4 6 (by decide) (List.mem_of_getElem? (i := 7) rfl) rfl rfl rfl (Nat.le_of_ble_eq_true rfl) hS (hAin 0 (by decide)) dX4_become_65 (fun H locs hO hz hk hS => ?_)
  have hP2 := hP2.keep (A1 := fun q => q = ad 0) (fun q h z => hk q h z) (fun k h e => hdj 0 k (by decide) h e.symm)
  have hP := zW.put hP hJ 0 (by decide) hO hk (sC_0_2 (σ2 0 2))
  refine lv_aload_n (pc := 68) hx hb dX4_become_68 rfl (lv_at hl 0 rfl) ?_
  refine lv_aload_n (pc := 69) hx hb dX4_become_69 rfl (lv_at hl 1 rfl) ?_
  refine zr_get (pc := 70) S hK (hP2 0 (by decide)) rfl i_X4 7 (by decide) (List.mem_of_getElem? (i := 8) rfl) rfl dX4_become_70 ?_
  refine zr_put (pc := 73) S hK (hP 0 (by decide)) rfl i_X4 tyX4 tyX4_ok nmX4 7 (by decide) (List.mem_of_getElem? (i := 8) rfl) rfl rfl rfl (Nat.le_of_ble_eq_true rfl) hS (hAin 0 (by decide)) dX4_become_73 (fun H locs hO hz hk hS => ?_)
  have hP2 := hP2.keep (A1 := fun q => q = ad 0) (fun q h z => hk q h z) (fun k h e => hdj 0 k (by decide) h e.symm)
  have hP := zW.put hP hJ 0 (by decide) hO hk (sC_0_3 (σ2 0 3))
  refine lv_aload_n (pc := 76) hx hb dX4_become_76 rfl (lv_at hl 0 rfl) ?_
  refine lv_aload_n (pc := 77) hx hb dX4_become_77 rfl (lv_at hl 1 rfl) ?_
  refine zr_get (pc := 78) S hK (hP2 0 (by decide)) rfl i_X4 8 (by decide) (List.mem_of_getElem? (i := 9) rfl) rfl dX4_become_78 ?_
  refine zr_put (pc := 81) S hK (hP 0 (by decide)) rfl i_X4 tyX4 tyX4_ok nmX4 8 (by decide) (List.mem_of_getElem? (i := 9) rfl) rfl rfl rfl (Nat.le_of_ble_eq_true rfl) hS (hAin 0 (by decide)) dX4_become_81 (fun H locs hO hz hk hS => ?_)
  have hP2 := hP2.keep (A1 := fun q => q = ad 0) (fun q h z => hk q h z) (fun k h e => hdj 0 k (by decide) h e.symm)
  have hP := zW.put hP hJ 0 (by decide) hO hk (sC_0_4 (σ2 0 4))
  exact W.vret hx hb hr (fun tz ht hW => ⟨⟨(), rfl, trivial, by dsimp only; rw [ht]; exact hP⟩, hS.F ht⟩) hS.2.2 dX4_become_84
