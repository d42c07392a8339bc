set_option maxHeartbeats 4000000 in
set_option maxRecDepth 100000 in
theorem ct_X7_put (l : Launch) (D : va_G) (cI cT : ClassId) (sz : Nat) (q n : Nat) (f : Int → Int) (i v : Int) (hn : (n : Int) ≤ 2147483647) (h0 : 0 ≤ i) (h1 : i < (n : Int)) : zMv l yX7_put wsX7_put ({ frames := 0, cells := 0, slots := 0, locals := 0 }) D cI cT [.ref (q), .int (zI (i)), .int (zI (v))] sz (fun _ H => va_at D vwCl (q, .inl (cI, n, .inl (zf f))) H) (fun H => va_at D vwCl (q, .inl (cI, n, .inl (zf (zu f i v)))) H) (fun x => x = q ∨ sz ≤ x) := by
  refine Met.ofW (cc := cX7_put) (maxL := 3) (ret := none) (by decide) rfl ?_
  intro p_ e_ s m_ args below meth c_ s₁ B hml hv
  obtain ⟨rfl, hsz, hK, hF⟩ := hv
  have hx := B.exec
  have hb := B.bytes
  have hr := B.returns
  have hts := atoms_spec (ws := wsX7_put) B.pre
  have hown : s.vm.findClass RX7 = some m_.cls := findClass_of_methodNamed B.named
  have hlocks := B.notSynchronized
  have S : CallFix p_ m_ c_ cX7_put 3 s _ wsX7_put RX7 := ⟨hx, hb, hml, hown, hts⟩
  subst hsz
  generalize hAe : (fun x => x = q ∨ s.heap.size ≤ x) = A
  have hAn : ∀ q : Nat, s.heap.size ≤ q → A q := fun q h => by rw [← hAe]; exact Or.inr h
  obtain ⟨H, hHe⟩ : ∃ H : Heap, H = s.heap := ⟨_, rfl⟩
  rw [← hHe] at hF ⊢
  have hS : va_S A s.heap H [] := by rw [hHe]; exact va_S.rf
  have hq : A q := by rw [← hAe]; exact Or.inl rfl
  have hl := lv_entry ([.ref (q), .int (zI (i)), .int (zI (v))]) (n := 3) (Nat.le_of_ble_eq_true rfl)
  rw [lg_entry_eq]
  generalize (lg_sl ([.ref (q), .int (zI (i)), .int (zI (v))]) ++ List.replicate (3 - (lg_sl ([.ref (q), .int (zI (i)), .int (zI (v))])).length) Slot.unset).toArray = ls at hl ⊢
  have hl : lv_has ls 3 [(0, .ref (q)), (1, .int (zI (i))), (2, .int (zI (v)))] := hl
  refine lv_iload_n (pc := 0) hx hb dX7_put_0 rfl (lv_at hl 1 rfl) ?_
  refine zr_if_lt (pc := 1) (tgt := 14) hx hb dX7_put_1 (by decide) (by omega) (fun c_1 => ?_) (fun c_1 => ?_)
  · exact absurd c_1 (by omega)
  · refine lv_iload_n (pc := 4) hx hb dX7_put_4 rfl (lv_at hl 1 rfl) ?_
    refine lv_aload_n (pc := 5) hx hb dX7_put_5 rfl (lv_at hl 0 rfl) ?_
    refine zr_alen (pc := 6) (n := n) hx hb (zAr_of (zK_int hK) hF) dX7_put_6 ?_
    refine zr_icmp_ge (pc := 7) (tgt := 14) hx hb dX7_put_7 (by decide) (by omega) (by omega) (fun c_7 => ?_) (fun c_7 => ?_)
    · exact absurd c_7 (by omega)
    · refine lv_aload_n (pc := 10) hx hb dX7_put_10 rfl (lv_at hl 0 rfl) ?_
      refine lv_iload_n (pc := 11) hx hb dX7_put_11 rfl (lv_at hl 1 rfl) ?_
      refine lv_iload_n (pc := 12) hx hb dX7_put_12 rfl (lv_at hl 2 rfl) ?_
      refine zr_ast (pc := 13) (k := n) hx hb hK hF (by omega) (by omega) hn hS hq dX7_put_13 (fun H locs hO hz hk hS => ?_)
      exact W.vret hx hb hr (fun tz ht hW => ⟨⟨(), rfl, trivial, by dsimp only; rw [ht]; exact hO⟩, hS.F ht⟩) hS.2.2 dX7_put_14
set_option maxHeartbeats 4000000 in
set_option maxRecDepth 100000 in
theorem ct_X6_add (l : Launch) (D : va_G) (cI cT : ClassId) (sz : Nat) (ad : Nat → Nat) (σ : Nat → Int → Int) (g : Int → Int) (hR : Rel σ g) (hI : Inv g) (hJ : zJ ad 20) (ch : Int) (wa : Int) (le : Int) (al : Int) (co : Int) (sh : Int) (hn : g 0 < 16) : zMi l yX6_add wsX6_add ({ frames := 1, cells := 0, slots := 0, locals := 22 }) D cI cT [.ref (ad 1), .int (zI (ch)), .int (zI (wa)), .int (zI (le)), .int (zI (al)), .int (zI (co)), .int (zI (sh))] sz (fun _ H => zW D ad 20 (sC cI ad σ) H) (fun rr H => rr = zI (g 0) ∧ ∃ σ' : Nat → Int → Int, Rel σ' (mkC g ch wa le al co sh) ∧ zW D ad 20 (sC cI ad σ') H) (zR ad 20 sz) := by
  refine Met.ofW (cc := cX6_add) (maxL := 8) (ret := (some .int)) (by decide) rfl ?_
  intro p_ e_ s m_ args below meth c_ s₁ B hml hv
  obtain ⟨rfl, hsz, hK, hF⟩ := hv
  have hx := B.exec
  have hb := B.bytes
  have hr := B.returns
  have hts := atoms_spec (ws := wsX6_add) B.pre
  have hown : s.vm.findClass RX6 = some m_.cls := findClass_of_methodNamed B.named
  have hlocks := B.notSynchronized
  have S : CallFix p_ m_ c_ cX6_add 8 s _ wsX6_add RX6 := ⟨hx, hb, hml, hown, hts⟩
  have i_X6 : ∀ w ∈ u_ws RX6 TX6 9, w ∈ wsX6_add := fun _ h => List.mem_cons_of_mem _ (List.mem_append_right _ h)
  subst hsz
  generalize hAe : (zR ad 20 s.heap.size) = A
  have hAn : ∀ q : Nat, s.heap.size ≤ q → A q := fun q h => by rw [← hAe]; exact Or.inr h
  obtain ⟨H, hHe⟩ : ∃ H : Heap, H = s.heap := ⟨_, rfl⟩
  rw [← hHe] at hF ⊢
  have hS : va_S A s.heap H [] := by rw [hHe]; exact va_S.rf
  have hP := hF
  have hAin : ∀ k : Nat, k < 20 → A (ad k) := fun k hk => by rw [← hAe]; exact Or.inl ⟨k, hk, rfl⟩
  have hnC := iv_nC hI
  have hl := lv_entry ([.ref (ad 1), .int (zI (ch)), .int (zI (wa)), .int (zI (le)), .int (zI (al)), .int (zI (co)), .int (zI (sh))]) (n := 8) (Nat.le_of_ble_eq_true rfl)
  rw [lg_entry_eq]
  generalize (lg_sl ([.ref (ad 1), .int (zI (ch)), .int (zI (wa)), .int (zI (le)), .int (zI (al)), .int (zI (co)), .int (zI (sh))]) ++ List.replicate (8 - (lg_sl ([.ref (ad 1), .int (zI (ch)), .int (zI (wa)), .int (zI (le)), .int (zI (al)), .int (zI (co)), .int (zI (sh))])).length) Slot.unset).toArray = ls at hl ⊢
  have hl : lv_has ls 8 [(0, .ref (ad 1)), (1, .int (zI (ch))), (2, .int (zI (wa))), (3, .int (zI (le))), (4, .int (zI (al))), (5, .int (zI (co))), (6, .int (zI (sh)))] := hl
  refine lv_aload_n (pc := 0) hx hb dX6_add_0 rfl (lv_at hl 0 rfl) ?_
  refine zr_get (pc := 1) S hK (hP 1 (by decide)) rfl i_X6 0 (by decide) (List.mem_of_getElem? (i := 1) rfl) rfl dX6_add_1 ?_
  refine zr_top (b := g 0) (rl_nC hR) ?_
  refine lv_istore (pc := 4) (lv' := [(7, .int (zI (g 0))), (0, .ref (ad 1)), (1, .int (zI (ch))), (2, .int (zI (wa))), (3, .int (zI (le))), (4, .int (zI (al))), (5, .int (zI (co))), (6, .int (zI (sh)))]) hx hb dX6_add_4 hl (by decide) rfl (fun ls hl => ?_)
  refine lv_aload_n (pc := 6) hx hb dX6_add_6 rfl (lv_at hl 1 rfl) ?_
  refine zr_get (pc := 7) S hK (hP 1 (by decide)) rfl i_X6 1 (by decide) (List.mem_of_getElem? (i := 2) rfl) rfl dX6_add_7 ?_
  refine lv_iload (pc := 10) hx hb dX6_add_10 (lv_at hl 0 rfl) ?_
  refine lv_iconst (pc := 12) (v := zI 3) hx hb dX6_add_12 rfl ?_
  refine zr_imul (pc := 13) (d := (g 0) * 3) hx hb dX6_add_13 rfl ?_
  refine lv_iload_n (pc := 14) hx hb dX6_add_14 rfl (lv_at hl 2 rfl) ?_
  refine zr_nwv (pc := 15) (As := [.ref (ad 5), .int (zI ((g 0) * 3)), .int (zI (ch))]) (rest := []) S (ct_X7_put l D cI cT H.size (ad 5) 48 _ ((g 0) * 3) ch (by decide) (by omega) (by omega)) (va_cnB 3 hts gX6_add_X7_put_n44 rfl rfl rfl (zK_nest hK 10 rfl) (hts _ (List.mem_of_getElem? (i := 9) rfl)) (by decide +kernel) ⟨Nat.le_of_ble_eq_true rfl, Nat.le_of_ble_eq_true rfl⟩) (hts _ (List.mem_of_getElem? (i := 8) rfl)) zs0 hK (hP 5 (by decide)) hS (fun q h => h.elim (fun e => by rw [e]; exact (hAin 5 (by decide))) (fun z => hAn q (Nat.le_trans hS.1 z))) rfl hl.1 rfl (Nat.le_of_ble_eq_true rfl) dX6_add_15 ⟨Nat.le_of_ble_eq_true rfl, Nat.le_of_ble_eq_true rfl⟩ (fun H locs hG hz hk hS => ?_)
  have hP := zW.put hP hJ 5 (by decide) hG (fun q h1 h2 => hk q h1 (fun z => z.elim h2 (fun y => absurd h1 (Nat.not_lt.mpr y)))) (sC_a 5 (by decide) _ _)
  refine lv_aload_n (pc := 18) hx hb dX6_add_18 rfl (lv_at hl 1 rfl) ?_
  refine zr_get (pc := 19) S hK (hP 1 (by decide)) rfl i_X6 1 (by decide) (List.mem_of_getElem? (i := 2) rfl) rfl dX6_add_19 ?_
  refine lv_iload (pc := 22) hx hb dX6_add_22 (lv_at hl 0 rfl) ?_
  refine lv_iconst (pc := 24) (v := zI 3) hx hb dX6_add_24 rfl ?_
  refine zr_imul (pc := 25) (d := (g 0) * 3) hx hb dX6_add_25 rfl ?_
  refine lv_iconst (pc := 26) (v := zI 1) hx hb dX6_add_26 rfl ?_
  refine zr_iadd (pc := 27) (d := ((g 0) * 3) + 1) hx hb dX6_add_27 rfl ?_
  refine lv_iload_n (pc := 28) hx hb dX6_add_28 rfl (lv_at hl 3 rfl) ?_
  refine zr_nwv (pc := 29) (As := [.ref (ad 5), .int (zI (((g 0) * 3) + 1)), .int (zI (wa))]) (rest := []) S (ct_X7_put l D cI cT H.size (ad 5) 48 _ (((g 0) * 3) + 1) wa (by decide) (by omega) (by omega)) (va_cnB 3 hts gX6_add_X7_put_n44 rfl rfl rfl (zK_nest hK 10 rfl) (hts _ (List.mem_of_getElem? (i := 9) rfl)) (by decide +kernel) ⟨Nat.le_of_ble_eq_true rfl, Nat.le_of_ble_eq_true rfl⟩) (hts _ (List.mem_of_getElem? (i := 8) rfl)) zs0 hK (hP 5 (by decide)) hS (fun q h => h.elim (fun e => by rw [e]; exact (hAin 5 (by decide))) (fun z => hAn q (Nat.le_trans hS.1 z))) rfl hl.1 rfl (Nat.le_of_ble_eq_true rfl) dX6_add_29 ⟨Nat.le_of_ble_eq_true rfl, Nat.le_of_ble_eq_true rfl⟩ (fun H locs hG hz hk hS => ?_)
  have hP := zW.put hP hJ 5 (by decide) hG (fun q h1 h2 => hk q h1 (fun z => z.elim h2 (fun y => absurd h1 (Nat.not_lt.mpr y)))) (sC_a 5 (by decide) _ _)
  refine lv_aload_n (pc := 32) hx hb dX6_add_32 rfl (lv_at hl 1 rfl) ?_
  refine zr_get (pc := 33) S hK (hP 1 (by decide)) rfl i_X6 1 (by decide) (List.mem_of_getElem? (i := 2) rfl) rfl dX6_add_33 ?_
  refine lv_iload (pc := 36) hx hb dX6_add_36 (lv_at hl 0 rfl) ?_
  refine lv_iconst (pc := 38) (v := zI 3) hx hb dX6_add_38 rfl ?_
  refine zr_imul (pc := 39) (d := (g 0) * 3) hx hb dX6_add_39 rfl ?_
  refine lv_iconst (pc := 40) (v := zI 2) hx hb dX6_add_40 rfl ?_
  refine zr_iadd (pc := 41) (d := ((g 0) * 3) + 2) hx hb dX6_add_41 rfl ?_
  refine lv_iload_n (pc := 42) hx hb dX6_add_42 rfl (lv_at hl 4 rfl) ?_
  refine zr_nwv (pc := 43) (As := [.ref (ad 5), .int (zI (((g 0) * 3) + 2)), .int (zI (le))]) (rest := []) S (ct_X7_put l D cI cT H.size (ad 5) 48 _ (((g 0) * 3) + 2) le (by decide) (by omega) (by omega)) (va_cnB 3 hts gX6_add_X7_put_n44 rfl rfl rfl (zK_nest hK 10 rfl) (hts _ (List.mem_of_getElem? (i := 9) rfl)) (by decide +kernel) ⟨Nat.le_of_ble_eq_true rfl, Nat.le_of_ble_eq_true rfl⟩) (hts _ (List.mem_of_getElem? (i := 8) rfl)) zs0 hK (hP 5 (by decide)) hS (fun q h => h.elim (fun e => by rw [e]; exact (hAin 5 (by decide))) (fun z => hAn q (Nat.le_trans hS.1 z))) rfl hl.1 rfl (Nat.le_of_ble_eq_true rfl) dX6_add_43 ⟨Nat.le_of_ble_eq_true rfl, Nat.le_of_ble_eq_true rfl⟩ (fun H locs hG hz hk hS => ?_)
  have hP := zW.put hP hJ 5 (by decide) hG (fun q h1 h2 => hk q h1 (fun z => z.elim h2 (fun y => absurd h1 (Nat.not_lt.mpr y)))) (sC_a 5 (by decide) _ _)
  refine lv_aload_n (pc := 46) hx hb dX6_add_46 rfl (lv_at hl 1 rfl) ?_
  refine zr_get (pc := 47) S hK (hP 1 (by decide)) rfl i_X6 2 (by decide) (List.mem_of_getElem? (i := 3) rfl) rfl dX6_add_47 ?_
  refine lv_iload (pc := 50) hx hb dX6_add_50 (lv_at hl 0 rfl) ?_
  refine lv_iload (pc := 52) hx hb dX6_add_52 (lv_at hl 5 rfl) ?_
  refine zr_nwv (pc := 54) (As := [.ref (ad 6), .int (zI (g 0)), .int (zI (al))]) (rest := []) S (ct_X7_put l D cI cT H.size (ad 6) 16 _ (g 0) al (by decide) (by omega) (by omega)) (va_cnB 3 hts gX6_add_X7_put_n44 rfl rfl rfl (zK_nest hK 10 rfl) (hts _ (List.mem_of_getElem? (i := 9) rfl)) (by decide +kernel) ⟨Nat.le_of_ble_eq_true rfl, Nat.le_of_ble_eq_true rfl⟩) (hts _ (List.mem_of_getElem? (i := 8) rfl)) zs0 hK (hP 6 (by decide)) hS (fun q h => h.elim (fun e => by rw [e]; exact (hAin 6 (by decide))) (fun z => hAn q (Nat.le_trans hS.1 z))) rfl hl.1 rfl (Nat.le_of_ble_eq_true rfl) dX6_add_54 ⟨Nat.le_of_ble_eq_true rfl, Nat.le_of_ble_eq_true rfl⟩ (fun H locs hG hz hk hS => ?_)
  have hP := zW.put hP hJ 6 (by decide) hG (fun q h1 h2 => hk q h1 (fun z => z.elim h2 (fun y => absurd h1 (Nat.not_lt.mpr y)))) (sC_a 6 (by decide) _ _)
  refine lv_aload_n (pc := 57) hx hb dX6_add_57 rfl (lv_at hl 1 rfl) ?_
  refine zr_get (pc := 58) S hK (hP 1 (by decide)) rfl i_X6 3 (by decide) (List.mem_of_getElem? (i := 4) rfl) rfl dX6_add_58 ?_
  refine lv_iload (pc := 61) hx hb dX6_add_61 (lv_at hl 0 rfl) ?_
  refine lv_iload (pc := 63) hx hb dX6_add_63 (lv_at hl 6 rfl) ?_
  refine zr_nwv (pc := 65) (As := [.ref (ad 7), .int (zI (g 0)), .int (zI (co))]) (rest := []) S (ct_X7_put l D cI cT H.size (ad 7) 16 _ (g 0) co (by decide) (by omega) (by omega)) (va_cnB 3 hts gX6_add_X7_put_n44 rfl rfl rfl (zK_nest hK 10 rfl) (hts _ (List.mem_of_getElem? (i := 9) rfl)) (by decide +kernel) ⟨Nat.le_of_ble_eq_true rfl, Nat.le_of_ble_eq_true rfl⟩) (hts _ (List.mem_of_getElem? (i := 8) rfl)) zs0 hK (hP 7 (by decide)) hS (fun q h => h.elim (fun e => by rw [e]; exact (hAin 7 (by decide))) (fun z => hAn q (Nat.le_trans hS.1 z))) rfl hl.1 rfl (Nat.le_of_ble_eq_true rfl) dX6_add_65 ⟨Nat.le_of_ble_eq_true rfl, Nat.le_of_ble_eq_true rfl⟩ (fun H locs hG hz hk hS => ?_)
  have hP := zW.put hP hJ 7 (by decide) hG (fun q h1 h2 => hk q h1 (fun z => z.elim h2 (fun y => absurd h1 (Nat.not_lt.mpr y)))) (sC_a 7 (by decide) _ _)
  refine lv_aload_n (pc := 68) hx hb dX6_add_68 rfl (lv_at hl 1 rfl) ?_
  refine zr_get (pc := 69) S hK (hP 1 (by decide)) rfl i_X6 4 (by decide) (List.mem_of_getElem? (i := 5) rfl) rfl dX6_add_69 ?_
  refine lv_iload (pc := 72) hx hb dX6_add_72 (lv_at hl 0 rfl) ?_
  refine lv_iload (pc := 74) hx hb dX6_add_74 (lv_at hl 7 rfl) ?_
  refine zr_nwv (pc := 76) (As := [.ref (ad 8), .int (zI (g 0)), .int (zI (sh))]) (rest := []) S (ct_X7_put l D cI cT H.size (ad 8) 16 _ (g 0) sh (by decide) (by omega) (by omega)) (va_cnB 3 hts gX6_add_X7_put_n44 rfl rfl rfl (zK_nest hK 10 rfl) (hts _ (List.mem_of_getElem? (i := 9) rfl)) (by decide +kernel) ⟨Nat.le_of_ble_eq_true rfl, Nat.le_of_ble_eq_true rfl⟩) (hts _ (List.mem_of_getElem? (i := 8) rfl)) zs0 hK (hP 8 (by decide)) hS (fun q h => h.elim (fun e => by rw [e]; exact (hAin 8 (by decide))) (fun z => hAn q (Nat.le_trans hS.1 z))) rfl hl.1 rfl (Nat.le_of_ble_eq_true rfl) dX6_add_76 ⟨Nat.le_of_ble_eq_true rfl, Nat.le_of_ble_eq_true rfl⟩ (fun H locs hG hz hk hS => ?_)
  have hP := zW.put hP hJ 8 (by decide) hG (fun q h1 h2 => hk q h1 (fun z => z.elim h2 (fun y => absurd h1 (Nat.not_lt.mpr y)))) (sC_a 8 (by decide) _ _)
  refine lv_aload_n (pc := 79) hx hb dX6_add_79 rfl (lv_at hl 1 rfl) ?_
  refine zr_get (pc := 80) S hK (hP 1 (by decide)) rfl i_X6 5 (by decide) (List.mem_of_getElem? (i := 6) rfl) rfl dX6_add_80 ?_
  refine lv_iload (pc := 83) hx hb dX6_add_83 (lv_at hl 0 rfl) ?_
  refine lv_iconst (pc := 85) (v := zI 0) hx hb dX6_add_85 rfl ?_
  refine zr_nwv (pc := 86) (As := [.ref (ad 9), .int (zI (g 0)), .int (zI (0))]) (rest := []) S (ct_X7_put l D cI cT H.size (ad 9) 16 _ (g 0) 0 (by decide) (by omega) (by omega)) (va_cnB 3 hts gX6_add_X7_put_n44 rfl rfl rfl (zK_nest hK 10 rfl) (hts _ (List.mem_of_getElem? (i := 9) rfl)) (by decide +kernel) ⟨Nat.le_of_ble_eq_true rfl, Nat.le_of_ble_eq_true rfl⟩) (hts _ (List.mem_of_getElem? (i := 8) rfl)) zs0 hK (hP 9 (by decide)) hS (fun q h => h.elim (fun e => by rw [e]; exact (hAin 9 (by decide))) (fun z => hAn q (Nat.le_trans hS.1 z))) rfl hl.1 rfl (Nat.le_of_ble_eq_true rfl) dX6_add_86 ⟨Nat.le_of_ble_eq_true rfl, Nat.le_of_ble_eq_true rfl⟩ (fun H locs hG hz hk hS => ?_)
  have hP := zW.put hP hJ 9 (by decide) hG (fun q h1 h2 => hk q h1 (fun z => z.elim h2 (fun y => absurd h1 (Nat.not_lt.mpr y)))) (sC_a 9 (by decide) _ _)
  refine lv_aload_n (pc := 89) hx hb dX6_add_89 rfl (lv_at hl 1 rfl) ?_
  refine zr_get (pc := 90) S hK (hP 1 (by decide)) rfl i_X6 6 (by decide) (List.mem_of_getElem? (i := 7) rfl) rfl dX6_add_90 ?_
  refine lv_iload (pc := 93) hx hb dX6_add_93 (lv_at hl 0 rfl) ?_
  refine lv_iconst (pc := 95) (v := zI 0) hx hb dX6_add_95 rfl ?_
  refine zr_nwv (pc := 96) (As := [.ref (ad 10), .int (zI (g 0)), .int (zI (0))]) (rest := []) S (ct_X7_put l D cI cT H.size (ad 10) 16 _ (g 0) 0 (by decide) (by omega) (by omega)) (va_cnB 3 hts gX6_add_X7_put_n44 rfl rfl rfl (zK_nest hK 10 rfl) (hts _ (List.mem_of_getElem? (i := 9) rfl)) (by decide +kernel) ⟨Nat.le_of_ble_eq_true rfl, Nat.le_of_ble_eq_true rfl⟩) (hts _ (List.mem_of_getElem? (i := 8) rfl)) zs0 hK (hP 10 (by decide)) hS (fun q h => h.elim (fun e => by rw [e]; exact (hAin 10 (by decide))) (fun z => hAn q (Nat.le_trans hS.1 z))) rfl hl.1 rfl (Nat.le_of_ble_eq_true rfl) dX6_add_96 ⟨Nat.le_of_ble_eq_true rfl, Nat.le_of_ble_eq_true rfl⟩ (fun H locs hG hz hk hS => ?_)
  have hP := zW.put hP hJ 10 (by decide) hG (fun q h1 h2 => hk q h1 (fun z => z.elim h2 (fun y => absurd h1 (Nat.not_lt.mpr y)))) (sC_a 10 (by decide) _ _)
  refine lv_aload_n (pc := 99) hx hb dX6_add_99 rfl (lv_at hl 1 rfl) ?_
  refine lv_dup (pc := 100) hx hb dX6_add_100 rfl ?_
  refine zr_get (pc := 101) S hK (hP 1 (by decide)) rfl i_X6 0 (by decide) (List.mem_of_getElem? (i := 1) rfl) rfl dX6_add_101 ?_
  refine zr_top (b := g 0) (by rw [su_n (by decide), su_n (by decide), su_n (by decide), su_n (by decide), su_n (by decide), su_n (by decide), su_n (by decide), su_n (by decide)]; exact rl_nC hR) ?_
  refine lv_iconst (pc := 104) (v := zI 1) hx hb dX6_add_104 rfl ?_
  refine zr_iadd (pc := 105) (d := (g 0) + 1) hx hb dX6_add_105 rfl ?_
  refine zr_put (pc := 106) S hK (hP 1 (by decide)) rfl i_X6 tyX6 tyX6_ok nmX6 0 (by decide) (List.mem_of_getElem? (i := 1) rfl) rfl rfl rfl (Nat.le_of_ble_eq_true rfl) hS (hAin 1 (by decide)) dX6_add_106 (fun H locs hO hz hk hS => ?_)
  have hP := zW.put hP hJ 1 (by decide) hO hk (sC_1_0 ((g 0) + 1))
  refine lv_iload (pc := 109) hx hb dX6_add_109 (lv_at hl 0 rfl) ?_
  exact W.iret (v := zI (g 0)) hx hb hr (fun tz ht hW => ⟨⟨zI (g 0), zI (g 0), rfl, rfl, by dsimp only; rw [ht]; exact ⟨rfl, _, rel_mkC hR hI hn, hP⟩⟩, hS.F ht⟩) hS.2.2 dX6_add_111
set_option maxHeartbeats 4000000 in
set_option maxRecDepth 100000 in
theorem ct_X6_addAlteration (l : Launch) (D : va_G) (cI cT : ClassId) (sz : Nat) (ad : Nat → Nat) (σ : Nat → Int → Int) (g : Int → Int) (hR : Rel σ g) (hI : Inv g) (hJ : zJ ad 20) (c : Int) (m : Int) (d : Int) (h0 : 0 ≤ c) (h1 : c < g 0) (hn : gC g c 7 < 6) : zMv l yX6_addAlteration wsX6_addAlteration ({ frames := 1, cells := 0, slots := 0, locals := 22 }) D cI cT [.ref (ad 1), .int (zI (c)), .int (zI (m)), .int (zI (d))] sz (fun _ H => zW D ad 20 (sC cI ad σ) H) (fun H => ∃ σ' : Nat → Int → Int, Rel σ' (altG g c m d) ∧ zW D ad 20 (sC cI ad σ') H) (zR ad 20 sz) := by
  refine Met.ofW (cc := cX6_addAlteration) (maxL := 5) (ret := none) (by decide) rfl ?_
  intro p_ e_ s m_ args below meth c_ s₁ B hml hv
  obtain ⟨rfl, hsz, hK, hF⟩ := hv
  have hx := B.exec
  have hb := B.bytes
  have hr := B.returns
  have hts := atoms_spec (ws := wsX6_addAlteration) B.pre
  have hown : s.vm.findClass RX6 = some m_.cls := findClass_of_methodNamed B.named
  have hlocks := B.notSynchronized
  have S : CallFix p_ m_ c_ cX6_addAlteration 5 s _ wsX6_addAlteration RX6 := ⟨hx, hb, hml, hown, hts⟩
  have i_X6 : ∀ w ∈ u_ws RX6 TX6 9, w ∈ wsX6_addAlteration := fun _ h => List.mem_cons_of_mem _ (List.mem_append_right _ h)
  subst hsz
  generalize hAe : (zR ad 20 s.heap.size) = A
  have hAn : ∀ q : Nat, s.heap.size ≤ q → A q := fun q h => by rw [← hAe]; exact Or.inr h
  obtain ⟨H, hHe⟩ : ∃ H : Heap, H = s.heap := ⟨_, rfl⟩
  rw [← hHe] at hF ⊢
  have hS : va_S A s.heap H [] := by rw [hHe]; exact va_S.rf
  have hP := hF
  have hAin : ∀ k : Nat, k < 20 → A (ad k) := fun k hk => by rw [← hAe]; exact Or.inl ⟨k, hk, rfl⟩
  have hnC := iv_nC hI
  have hna := iv_na hI h0 h1
  have hl := lv_entry ([.ref (ad 1), .int (zI (c)), .int (zI (m)), .int (zI (d))]) (n := 5) (Nat.le_of_ble_eq_true rfl)
  rw [lg_entry_eq]
  generalize (lg_sl ([.ref (ad 1), .int (zI (c)), .int (zI (m)), .int (zI (d))]) ++ List.replicate (5 - (lg_sl ([.ref (ad 1), .int (zI (c)), .int (zI (m)), .int (zI (d))])).length) Slot.unset).toArray = ls at hl ⊢
  have hl : lv_has ls 5 [(0, .ref (ad 1)), (1, .int (zI (c))), (2, .int (zI (m))), (3, .int (zI (d)))] := hl
  refine lv_aload_n (pc := 0) hx hb dX6_addAlteration_0 rfl (lv_at hl 0 rfl) ?_
  refine zr_get (pc := 1) S hK (hP 1 (by decide)) rfl i_X6 6 (by decide) (List.mem_of_getElem? (i := 1) rfl) rfl dX6_addAlteration_1 ?_
  refine lv_iload_n (pc := 4) hx hb dX6_addAlteration_4 rfl (lv_at hl 1 rfl) ?_
  refine zr_ni (pc := 5) (As := [.ref (ad 10), .int (zI (c))]) (rest := []) S (ct_X7_at l D cI cT (ad 10) 16 _ c (gC g c 7) (by decide) (by omega) (by omega) (rl_na hR h0 h1) (by omega)) (va_cnB 2 hts gX6_addAlteration_X7_at_n48 rfl rfl rfl (zK_nest hK 13 rfl) (hts _ (List.mem_of_getElem? (i := 5) rfl)) (by decide +kernel) ⟨Nat.le_of_ble_eq_true rfl, Nat.le_of_ble_eq_true rfl⟩) (hts _ (List.mem_of_getElem? (i := 4) rfl)) zs_ar hK (zAr_of (zK_int hK) (hP 10 (by decide))) rfl hl.1 rfl (Nat.le_of_ble_eq_true rfl) dX6_addAlteration_5 ⟨Nat.le_of_ble_eq_true rfl, Nat.le_of_ble_eq_true rfl⟩ (fun r_5 hr_5 => ?_)
  subst hr_5
  refine lv_istore (pc := 8) (lv' := [(4, .int (zI (gC g c 7))), (0, .ref (ad 1)), (1, .int (zI (c))), (2, .int (zI (m))), (3, .int (zI (d)))]) hx hb dX6_addAlteration_8 hl (by decide) rfl (fun ls hl => ?_)
  refine lv_aload_n (pc := 10) hx hb dX6_addAlteration_10 rfl (lv_at hl 1 rfl) ?_
  refine zr_get (pc := 11) S hK (hP 1 (by decide)) rfl i_X6 7 (by decide) (List.mem_of_getElem? (i := 2) rfl) rfl dX6_addAlteration_11 ?_
  refine lv_aload_n (pc := 14) hx hb dX6_addAlteration_14 rfl (lv_at hl 1 rfl) ?_
  refine lv_iload_n (pc := 15) hx hb dX6_addAlteration_15 rfl (lv_at hl 2 rfl) ?_
  refine lv_iload (pc := 16) hx hb dX6_addAlteration_16 (lv_at hl 0 rfl) ?_
  refine zr_vi (pc := 18) (As := [.int (zI (c)), .int (zI (gC g c 7))]) (rest := [.ref (ad 11)]) S (ct_X6_placeOf l D cI cT (ad 1) c (gC g c 7)) (cwV 2 hts gX6_addAlteration_X6_placeOf rfl rfl rfl (by decide +kernel) ⟨Nat.le_of_ble_eq_true rfl, Nat.le_of_ble_eq_true rfl⟩) zs0 hK trivial (zr_recv hK (hP 1 (by decide)) rfl) rfl hl.1 rfl (Nat.le_of_ble_eq_true rfl) dX6_addAlteration_18 ⟨Nat.le_of_ble_eq_true rfl, Nat.le_of_ble_eq_true rfl⟩ (fun r_18 hr_18 => ?_)
  subst hr_18
  refine lv_iload_n (pc := 21) hx hb dX6_addAlteration_21 rfl (lv_at hl 3 rfl) ?_
  refine zr_nwv (pc := 22) (As := [.ref (ad 11), .int (zI (c * 6 + (gC g c 7))), .int (zI (m))]) (rest := []) S (ct_X7_put l D cI cT H.size (ad 11) 96 _ (c * 6 + (gC g c 7)) m (by decide) (by omega) (by omega)) (va_cnB 3 hts gX6_addAlteration_X7_put_n44 rfl rfl rfl (zK_nest hK 10 rfl) (hts _ (List.mem_of_getElem? (i := 5) rfl)) (by decide +kernel) ⟨Nat.le_of_ble_eq_true rfl, Nat.le_of_ble_eq_true rfl⟩) (hts _ (List.mem_of_getElem? (i := 12) rfl)) zs0 hK (hP 11 (by decide)) hS (fun q h => h.elim (fun e => by rw [e]; exact (hAin 11 (by decide))) (fun z => hAn q (Nat.le_trans hS.1 z))) rfl hl.1 rfl (Nat.le_of_ble_eq_true rfl) dX6_addAlteration_22 ⟨Nat.le_of_ble_eq_true rfl, Nat.le_of_ble_eq_true rfl⟩ (fun H locs hG hz hk hS => ?_)
  have hP := zW.put hP hJ 11 (by decide) hG (fun q h1 h2 => hk q h1 (fun z => z.elim h2 (fun y => absurd h1 (Nat.not_lt.mpr y)))) (sC_a 11 (by decide) _ _)
  refine lv_aload_n (pc := 25) hx hb dX6_addAlteration_25 rfl (lv_at hl 1 rfl) ?_
  refine zr_get (pc := 26) S hK (hP 1 (by decide)) rfl i_X6 8 (by decide) (List.mem_of_getElem? (i := 3) rfl) rfl dX6_addAlteration_26 ?_
  refine lv_aload_n (pc := 29) hx hb dX6_addAlteration_29 rfl (lv_at hl 1 rfl) ?_
  refine lv_iload_n (pc := 30) hx hb dX6_addAlteration_30 rfl (lv_at hl 2 rfl) ?_
  refine lv_iload (pc := 31) hx hb dX6_addAlteration_31 (lv_at hl 0 rfl) ?_
  refine zr_vi (pc := 33) (As := [.int (zI (c)), .int (zI (gC g c 7))]) (rest := [.ref (ad 12)]) S (ct_X6_placeOf l D cI cT (ad 1) c (gC g c 7)) (cwV 2 hts gX6_addAlteration_X6_placeOf rfl rfl rfl (by decide +kernel) ⟨Nat.le_of_ble_eq_true rfl, Nat.le_of_ble_eq_true rfl⟩) zs0 hK trivial (zr_recv hK (hP 1 (by decide)) rfl) rfl hl.1 rfl (Nat.le_of_ble_eq_true rfl) dX6_addAlteration_33 ⟨Nat.le_of_ble_eq_true rfl, Nat.le_of_ble_eq_true rfl⟩ (fun r_33 hr_33 => ?_)
  subst hr_33
  refine lv_iload_n (pc := 36) hx hb dX6_addAlteration_36 rfl (lv_at hl 4 rfl) ?_
  refine zr_nwv (pc := 37) (As := [.ref (ad 12), .int (zI (c * 6 + (gC g c 7))), .int (zI (d))]) (rest := []) S (ct_X7_put l D cI cT H.size (ad 12) 96 _ (c * 6 + (gC g c 7)) d (by decide) (by omega) (by omega)) (va_cnB 3 hts gX6_addAlteration_X7_put_n44 rfl rfl rfl (zK_nest hK 10 rfl) (hts _ (List.mem_of_getElem? (i := 5) rfl)) (by decide +kernel) ⟨Nat.le_of_ble_eq_true rfl, Nat.le_of_ble_eq_true rfl⟩) (hts _ (List.mem_of_getElem? (i := 12) rfl)) zs0 hK (hP 12 (by decide)) hS (fun q h => h.elim (fun e => by rw [e]; exact (hAin 12 (by decide))) (fun z => hAn q (Nat.le_trans hS.1 z))) rfl hl.1 rfl (Nat.le_of_ble_eq_true rfl) dX6_addAlteration_37 ⟨Nat.le_of_ble_eq_true rfl, Nat.le_of_ble_eq_true rfl⟩ (fun H locs hG hz hk hS => ?_)
  have hP := zW.put hP hJ 12 (by decide) hG (fun q h1 h2 => hk q h1 (fun z => z.elim h2 (fun y => absurd h1 (Nat.not_lt.mpr y)))) (sC_a 12 (by decide) _ _)
  refine lv_aload_n (pc := 40) hx hb dX6_addAlteration_40 rfl (lv_at hl 1 rfl) ?_
  refine zr_get (pc := 41) S hK (hP 1 (by decide)) rfl i_X6 6 (by decide) (List.mem_of_getElem? (i := 1) rfl) rfl dX6_addAlteration_41 ?_
  refine lv_iload_n (pc := 44) hx hb dX6_addAlteration_44 rfl (lv_at hl 2 rfl) ?_
  refine lv_iload (pc := 45) hx hb dX6_addAlteration_45 (lv_at hl 0 rfl) ?_
  refine lv_iconst (pc := 47) (v := zI 1) hx hb dX6_addAlteration_47 rfl ?_
  refine zr_iadd (pc := 48) (d := (gC g c 7) + 1) hx hb dX6_addAlteration_48 rfl ?_
  refine zr_nwv (pc := 49) (As := [.ref (ad 10), .int (zI (c)), .int (zI ((gC g c 7) + 1))]) (rest := []) S (ct_X7_put l D cI cT H.size (ad 10) 16 _ c ((gC g c 7) + 1) (by decide) (by omega) (by omega)) (va_cnB 3 hts gX6_addAlteration_X7_put_n44 rfl rfl rfl (zK_nest hK 10 rfl) (hts _ (List.mem_of_getElem? (i := 5) rfl)) (by decide +kernel) ⟨Nat.le_of_ble_eq_true rfl, Nat.le_of_ble_eq_true rfl⟩) (hts _ (List.mem_of_getElem? (i := 12) rfl)) zs0 hK (hP 10 (by decide)) hS (fun q h => h.elim (fun e => by rw [e]; exact (hAin 10 (by decide))) (fun z => hAn q (Nat.le_trans hS.1 z))) rfl hl.1 rfl (Nat.le_of_ble_eq_true rfl) dX6_addAlteration_49 ⟨Nat.le_of_ble_eq_true rfl, Nat.le_of_ble_eq_true rfl⟩ (fun H locs hG hz hk hS => ?_)
  have hP := zW.put hP hJ 10 (by decide) hG (fun q h1 h2 => hk q h1 (fun z => z.elim h2 (fun y => absurd h1 (Nat.not_lt.mpr y)))) (sC_a 10 (by decide) _ _)
  exact W.vret hx hb hr (fun tz ht hW => ⟨⟨(), rfl, trivial, by dsimp only; rw [ht]; exact ⟨_, rel_alt hR hI h0 h1 hn, hP⟩⟩, hS.F ht⟩) hS.2.2 dX6_addAlteration_52
set_option maxHeartbeats 4000000 in
set_option maxRecDepth 100000 in
theorem ct_X6_removeAlteration (l : Launch) (D : va_G) (cI cT : ClassId) (sz : Nat) (ad : Nat → Nat) (σ : Nat → Int → Int) (g : Int → Int) (hR : Rel σ g) (hI : Inv g) (hJ : zJ ad 20) (c : Int) (h0 : 0 ≤ c) (h1 : c < g 0) (hn : 0 < gC g c 7) : zMi l yX6_removeAlteration wsX6_removeAlteration ({ frames := 1, cells := 0, slots := 0, locals := 22 }) D cI cT [.ref (ad 1), .int (zI (c))] sz (fun _ H => zW D ad 20 (sC cI ad σ) H) (fun rr H => rr = zI (gX g c (gC g c 7 - 1)) ∧ ∃ σ' : Nat → Int → Int, Rel σ' (zu g (12 + 20 * c + 7) (gC g c 7 - 1)) ∧ zW D ad 20 (sC cI ad σ') H) (zR ad 20 sz) := by
  refine Met.ofW (cc := cX6_removeAlteration) (maxL := 3) (ret := (some .int)) (by decide) rfl ?_
  intro p_ e_ s m_ args below meth c_ s₁ B hml hv
  obtain ⟨rfl, hsz, hK, hF⟩ := hv
  have hx := B.exec
  have hb := B.bytes
  have hr := B.returns
  have hts := atoms_spec (ws := wsX6_removeAlteration) B.pre
  have hown : s.vm.findClass RX6 = some m_.cls := findClass_of_methodNamed B.named
  have hlocks := B.notSynchronized
  have S : CallFix p_ m_ c_ cX6_removeAlteration 3 s _ wsX6_removeAlteration RX6 := ⟨hx, hb, hml, hown, hts⟩
  have i_X6 : ∀ w ∈ u_ws RX6 TX6 9, w ∈ wsX6_removeAlteration := fun _ h => List.mem_cons_of_mem _ (List.mem_append_right _ h)
  subst hsz
  generalize hAe : (zR ad 20 s.heap.size) = A
  have hAn : ∀ q : Nat, s.heap.size ≤ q → A q := fun q h => by rw [← hAe]; exact Or.inr h
  obtain ⟨H, hHe⟩ : ∃ H : Heap, H = s.heap := ⟨_, rfl⟩
  rw [← hHe] at hF ⊢
  have hS : va_S A s.heap H [] := by rw [hHe]; exact va_S.rf
  have hP := hF
  have hAin : ∀ k : Nat, k < 20 → A (ad k) := fun k hk => by rw [← hAe]; exact Or.inl ⟨k, hk, rfl⟩
  have hnC := iv_nC hI
  have hna := iv_na hI h0 h1
  have hl := lv_entry ([.ref (ad 1), .int (zI (c))]) (n := 3) (Nat.le_of_ble_eq_true rfl)
  rw [lg_entry_eq]
  generalize (lg_sl ([.ref (ad 1), .int (zI (c))]) ++ List.replicate (3 - (lg_sl ([.ref (ad 1), .int (zI (c))])).length) Slot.unset).toArray = ls at hl ⊢
  have hl : lv_has ls 3 [(0, .ref (ad 1)), (1, .int (zI (c)))] := hl
  refine lv_aload_n (pc := 0) hx hb dX6_removeAlteration_0 rfl (lv_at hl 0 rfl) ?_
  refine zr_get (pc := 1) S hK (hP 1 (by decide)) rfl i_X6 6 (by decide) (List.mem_of_getElem? (i := 1) rfl) rfl dX6_removeAlteration_1 ?_
  refine lv_iload_n (pc := 4) hx hb dX6_removeAlteration_4 rfl (lv_at hl 1 rfl) ?_
  refine zr_ni (pc := 5) (As := [.ref (ad 10), .int (zI (c))]) (rest := []) S (ct_X7_at l D cI cT (ad 10) 16 _ c (gC g c 7) (by decide) (by omega) (by omega) (rl_na hR h0 h1) (by omega)) (va_cnB 2 hts gX6_removeAlteration_X7_at_n48 rfl rfl rfl (zK_nest hK 13 rfl) (hts _ (List.mem_of_getElem? (i := 4) rfl)) (by decide +kernel) ⟨Nat.le_of_ble_eq_true rfl, Nat.le_of_ble_eq_true rfl⟩) (hts _ (List.mem_of_getElem? (i := 3) rfl)) zs_ar hK (zAr_of (zK_int hK) (hP 10 (by decide))) rfl hl.1 rfl (Nat.le_of_ble_eq_true rfl) dX6_removeAlteration_5 ⟨Nat.le_of_ble_eq_true rfl, Nat.le_of_ble_eq_true rfl⟩ (fun r_5 hr_5 => ?_)
  subst hr_5
  refine lv_iconst (pc := 8) (v := zI 1) hx hb dX6_removeAlteration_8 rfl ?_
  refine zr_isub (pc := 9) (d := (gC g c 7) - 1) hx hb dX6_removeAlteration_9 rfl ?_
  refine lv_istore_n (pc := 10) (lv' := [(2, .int (zI ((gC g c 7) - 1))), (0, .ref (ad 1)), (1, .int (zI (c)))]) hx hb dX6_removeAlteration_10 rfl hl (by decide) rfl (fun ls hl => ?_)
  refine lv_aload_n (pc := 11) hx hb dX6_removeAlteration_11 rfl (lv_at hl 1 rfl) ?_
  refine zr_get (pc := 12) S hK (hP 1 (by decide)) rfl i_X6 6 (by decide) (List.mem_of_getElem? (i := 1) rfl) rfl dX6_removeAlteration_12 ?_
  refine lv_iload_n (pc := 15) hx hb dX6_removeAlteration_15 rfl (lv_at hl 2 rfl) ?_
  refine lv_iload_n (pc := 16) hx hb dX6_removeAlteration_16 rfl (lv_at hl 0 rfl) ?_
  refine zr_nwv (pc := 17) (As := [.ref (ad 10), .int (zI (c)), .int (zI ((gC g c 7) - 1))]) (rest := []) S (ct_X7_put l D cI cT H.size (ad 10) 16 _ c ((gC g c 7) - 1) (by decide) (by omega) (by omega)) (va_cnB 3 hts gX6_removeAlteration_X7_put_n44 rfl rfl rfl (zK_nest hK 10 rfl) (hts _ (List.mem_of_getElem? (i := 4) rfl)) (by decide +kernel) ⟨Nat.le_of_ble_eq_true rfl, Nat.le_of_ble_eq_true rfl⟩) (hts _ (List.mem_of_getElem? (i := 6) rfl)) zs0 hK (hP 10 (by decide)) hS (fun q h => h.elim (fun e => by rw [e]; exact (hAin 10 (by decide))) (fun z => hAn q (Nat.le_trans hS.1 z))) rfl hl.1 rfl (Nat.le_of_ble_eq_true rfl) dX6_removeAlteration_17 ⟨Nat.le_of_ble_eq_true rfl, Nat.le_of_ble_eq_true rfl⟩ (fun H locs hG hz hk hS => ?_)
  have hP := zW.put hP hJ 10 (by decide) hG (fun q h1 h2 => hk q h1 (fun z => z.elim h2 (fun y => absurd h1 (Nat.not_lt.mpr y)))) (sC_a 10 (by decide) _ _)
  refine lv_aload_n (pc := 20) hx hb dX6_removeAlteration_20 rfl (lv_at hl 1 rfl) ?_
  refine zr_get (pc := 21) S hK (hP 1 (by decide)) rfl i_X6 8 (by decide) (List.mem_of_getElem? (i := 2) rfl) rfl dX6_removeAlteration_21 ?_
  refine lv_aload_n (pc := 24) hx hb dX6_removeAlteration_24 rfl (lv_at hl 1 rfl) ?_
  refine lv_iload_n (pc := 25) hx hb dX6_removeAlteration_25 rfl (lv_at hl 2 rfl) ?_
  refine lv_iload_n (pc := 26) hx hb dX6_removeAlteration_26 rfl (lv_at hl 0 rfl) ?_
  refine zr_vi (pc := 27) (As := [.int (zI (c)), .int (zI ((gC g c 7) - 1))]) (rest := [.ref (ad 12)]) S (ct_X6_placeOf l D cI cT (ad 1) c ((gC g c 7) - 1)) (cwV 2 hts gX6_removeAlteration_X6_placeOf rfl rfl rfl (by decide +kernel) ⟨Nat.le_of_ble_eq_true rfl, Nat.le_of_ble_eq_true rfl⟩) zs0 hK trivial (zr_recv hK (hP 1 (by decide)) rfl) rfl hl.1 rfl (Nat.le_of_ble_eq_true rfl) dX6_removeAlteration_27 ⟨Nat.le_of_ble_eq_true rfl, Nat.le_of_ble_eq_true rfl⟩ (fun r_27 hr_27 => ?_)
  subst hr_27
  refine zr_ni (pc := 30) (As := [.ref (ad 12), .int (zI (c * 6 + ((gC g c 7) - 1)))]) (rest := []) S (ct_X7_at l D cI cT (ad 12) 96 _ (c * 6 + ((gC g c 7) - 1)) (gX g c (gC g c 7 - 1)) (by decide) (by omega) (by omega) (by rw [su_n (by decide)]; exact rl_ac hR h0 h1 (by omega) (by omega)) (by omega)) (va_cnB 2 hts gX6_removeAlteration_X7_at_n48 rfl rfl rfl (zK_nest hK 13 rfl) (hts _ (List.mem_of_getElem? (i := 4) rfl)) (by decide +kernel) ⟨Nat.le_of_ble_eq_true rfl, Nat.le_of_ble_eq_true rfl⟩) (hts _ (List.mem_of_getElem? (i := 3) rfl)) zs_ar hK (zAr_of (zK_int hK) (hP 12 (by decide))) rfl hl.1 rfl (Nat.le_of_ble_eq_true rfl) dX6_removeAlteration_30 ⟨Nat.le_of_ble_eq_true rfl, Nat.le_of_ble_eq_true rfl⟩ (fun r_30 hr_30 => ?_)
  subst hr_30
  exact W.iret (v := zI (gX g c (gC g c 7 - 1))) hx hb hr (fun tz ht hW => ⟨⟨zI (gX g c (gC g c 7 - 1)), zI (gX g c (gC g c 7 - 1)), rfl, rfl, by dsimp only; rw [ht]; exact ⟨rfl, _, rel_cnt h0 h1 (by omega) (Or.inl (by omega)) hR hI, hP⟩⟩, hS.F ht⟩) hS.2.2 dX6_removeAlteration_33
set_option maxHeartbeats 4000000 in
set_option maxRecDepth 100000 in
theorem ct_X6_soil (l : Launch) (D : va_G) (cI cT : ClassId) (sz : Nat) (ad : Nat → Nat) (σ : Nat → Int → Int) (g : Int → Int) (hR : Rel σ g) (hI : Inv g) (hJ : zJ ad 20) (c : Int) (n : Int) (h0 : 0 ≤ c) (h1 : c < g 0) (n0 : 0 ≤ n) (n1 : n ≤ 12) : zMv l yX6_soil wsX6_soil ({ frames := 1, cells := 0, slots := 0, locals := 22 }) D cI cT [.ref (ad 1), .int (zI (c)), .int (zI (n))] sz (fun _ H => zW D ad 20 (sC cI ad σ) H) (fun H => ∃ σ' : Nat → Int → Int, Rel σ' (zu g (12 + 20 * c + 6) (min (gC g c 6 + n) 9)) ∧ zW D ad 20 (sC cI ad σ') H) (zR ad 20 sz) := by
  refine Met.ofW (cc := cX6_soil) (maxL := 3) (ret := none) (by decide) rfl ?_
  intro p_ e_ s m_ args below meth c_ s₁ B hml hv
  obtain ⟨rfl, hsz, hK, hF⟩ := hv
  have hx := B.exec
  have hb := B.bytes
  have hr := B.returns
  have hts := atoms_spec (ws := wsX6_soil) B.pre
  have hown : s.vm.findClass RX6 = some m_.cls := findClass_of_methodNamed B.named
  have hlocks := B.notSynchronized
  have S : CallFix p_ m_ c_ cX6_soil 3 s _ wsX6_soil RX6 := ⟨hx, hb, hml, hown, hts⟩
  have i_X6 : ∀ w ∈ u_ws RX6 TX6 9, w ∈ wsX6_soil := fun _ h => List.mem_cons_of_mem _ (List.mem_append_right _ h)
  subst hsz
  generalize hAe : (zR ad 20 s.heap.size) = A
  have hAn : ∀ q : Nat, s.heap.size ≤ q → A q := fun q h => by rw [← hAe]; exact Or.inr h
  obtain ⟨H, hHe⟩ : ∃ H : Heap, H = s.heap := ⟨_, rfl⟩
  rw [← hHe] at hF ⊢
  have hS : va_S A s.heap H [] := by rw [hHe]; exact va_S.rf
  have hP := hF
  have hAin : ∀ k : Nat, k < 20 → A (ad k) := fun k hk => by rw [← hAe]; exact Or.inl ⟨k, hk, rfl⟩
  have hnC := iv_nC hI
  have hdi := iv_di hI h0 h1
  have hl := lv_entry ([.ref (ad 1), .int (zI (c)), .int (zI (n))]) (n := 3) (Nat.le_of_ble_eq_true rfl)
  rw [lg_entry_eq]
  generalize (lg_sl ([.ref (ad 1), .int (zI (c)), .int (zI (n))]) ++ List.replicate (3 - (lg_sl ([.ref (ad 1), .int (zI (c)), .int (zI (n))])).length) Slot.unset).toArray = ls at hl ⊢
  have hl : lv_has ls 3 [(0, .ref (ad 1)), (1, .int (zI (c))), (2, .int (zI (n)))] := hl
  refine lv_aload_n (pc := 0) hx hb dX6_soil_0 rfl (lv_at hl 0 rfl) ?_
  refine zr_get (pc := 1) S hK (hP 1 (by decide)) rfl i_X6 5 (by decide) (List.mem_of_getElem? (i := 1) rfl) rfl dX6_soil_1 ?_
  refine lv_iload_n (pc := 4) hx hb dX6_soil_4 rfl (lv_at hl 1 rfl) ?_
  refine lv_aload_n (pc := 5) hx hb dX6_soil_5 rfl (lv_at hl 0 rfl) ?_
  refine zr_get (pc := 6) S hK (hP 1 (by decide)) rfl i_X6 5 (by decide) (List.mem_of_getElem? (i := 1) rfl) rfl dX6_soil_6 ?_
  refine lv_iload_n (pc := 9) hx hb dX6_soil_9 rfl (lv_at hl 1 rfl) ?_
  refine zr_ni (pc := 10) (As := [.ref (ad 9), .int (zI (c))]) (rest := [.int (zI (c)), .ref (ad 9)]) S (ct_X7_at l D cI cT (ad 9) 16 _ c (gC g c 6) (by decide) (by omega) (by omega) (rl_di hR h0 h1) (by omega)) (va_cnB 2 hts gX6_soil_X7_at_n48 rfl rfl rfl (zK_nest hK 13 rfl) (hts _ (List.mem_of_getElem? (i := 7) rfl)) (by decide +kernel) ⟨Nat.le_of_ble_eq_true rfl, Nat.le_of_ble_eq_true rfl⟩) (hts _ (List.mem_of_getElem? (i := 6) rfl)) zs_ar hK (zAr_of (zK_int hK) (hP 9 (by decide))) rfl hl.1 rfl (Nat.le_of_ble_eq_true rfl) dX6_soil_10 ⟨Nat.le_of_ble_eq_true rfl, Nat.le_of_ble_eq_true rfl⟩ (fun r_10 hr_10 => ?_)
  subst hr_10
  refine lv_iload_n (pc := 13) hx hb dX6_soil_13 rfl (lv_at hl 2 rfl) ?_
  refine zr_iadd (pc := 14) (d := (gC g c 6) + n) hx hb dX6_soil_14 rfl ?_
  refine lv_bipush (pc := 15) (v := zI 9) hx hb dX6_soil_15 zc_bipush_9 ?_
  refine zr_mmin (pc := 17) hx hb (hml.trans hl.1.symm) hown (hts _ (List.mem_of_getElem? (i := 2) rfl)) (hts _ (List.mem_of_getElem? (i := 3) rfl)) (hts _ (List.mem_of_getElem? (i := 4) rfl)) (hts _ (List.mem_of_getElem? (i := 5) rfl)) (Nat.le_of_ble_eq_true rfl) (Nat.le_of_ble_eq_true rfl) (Nat.le_of_ble_eq_true rfl) (Nat.le_of_ble_eq_true rfl) dX6_soil_17 (by omega) (by decide) (rfl : _ = min ((gC g c 6) + n) 9) ?_
  refine zr_nwv (pc := 20) (As := [.ref (ad 9), .int (zI (c)), .int (zI (min ((gC g c 6) + n) 9))]) (rest := []) S (ct_X7_put l D cI cT H.size (ad 9) 16 _ c (min ((gC g c 6) + n) 9) (by decide) (by omega) (by omega)) (va_cnB 3 hts gX6_soil_X7_put_n44 rfl rfl rfl (zK_nest hK 10 rfl) (hts _ (List.mem_of_getElem? (i := 7) rfl)) (by decide +kernel) ⟨Nat.le_of_ble_eq_true rfl, Nat.le_of_ble_eq_true rfl⟩) (hts _ (List.mem_of_getElem? (i := 9) rfl)) zs0 hK (hP 9 (by decide)) hS (fun q h => h.elim (fun e => by rw [e]; exact (hAin 9 (by decide))) (fun z => hAn q (Nat.le_trans hS.1 z))) rfl hl.1 rfl (Nat.le_of_ble_eq_true rfl) dX6_soil_20 ⟨Nat.le_of_ble_eq_true rfl, Nat.le_of_ble_eq_true rfl⟩ (fun H locs hG hz hk hS => ?_)
  have hP := zW.put hP hJ 9 (by decide) hG (fun q h1 h2 => hk q h1 (fun z => z.elim h2 (fun y => absurd h1 (Nat.not_lt.mpr y)))) (sC_a 9 (by decide) _ _)
  exact W.vret hx hb hr (fun tz ht hW => ⟨⟨(), rfl, trivial, by dsimp only; rw [ht]; exact ⟨_, rel_di h0 h1 hR hI, hP⟩⟩, hS.F ht⟩) hS.2.2 dX6_soil_23
set_option maxHeartbeats 4000000 in
set_option maxRecDepth 100000 in
theorem ct_X6_clean (l : Launch) (D : va_G) (cI cT : ClassId) (sz : Nat) (ad : Nat → Nat) (σ : Nat → Int → Int) (g : Int → Int) (hR : Rel σ g) (hI : Inv g) (hJ : zJ ad 20) (ld : Int) (st : Int) (l0 : 0 ≤ ld) (l1 : ld ≤ 65535) (st0 : 0 ≤ st) (st1 : st ≤ 9) : zMi l yX6_clean wsX6_clean ({ frames := 1, cells := 0, slots := 0, locals := 22 }) D cI cT [.ref (ad 1), .int (zI (ld)), .int (zI (st))] sz (fun _ H => zW D ad 20 (sC cI ad σ) H) (fun rr H => rr = zI (sm (fun k => less g ld st k) (g 0).toNat) ∧ ∃ σ' : Nat → Int → Int, Rel σ' (clnG g ld st (g 0).toNat) ∧ zW D ad 20 (sC cI ad σ') H) (zR ad 20 sz) := by
  refine Met.ofW (cc := cX6_clean) (maxL := 6) (ret := (some .int)) (by decide) rfl ?_
  intro p_ e_ s m_ args below meth c_ s₁ B hml hv
  obtain ⟨rfl, hsz, hK, hF⟩ := hv
  have hx := B.exec
  have hb := B.bytes
  have hr := B.returns
  have hts := atoms_spec (ws := wsX6_clean) B.pre
  have hown : s.vm.findClass RX6 = some m_.cls := findClass_of_methodNamed B.named
  have hlocks := B.notSynchronized
  have S : CallFix p_ m_ c_ cX6_clean 6 s _ wsX6_clean RX6 := ⟨hx, hb, hml, hown, hts⟩
  have i_X6 : ∀ w ∈ u_ws RX6 TX6 9, w ∈ wsX6_clean := fun _ h => List.mem_cons_of_mem _ (List.mem_append_right _ h)
  subst hsz
  generalize hAe : (zR ad 20 s.heap.size) = A
  have hAn : ∀ q : Nat, s.heap.size ≤ q → A q := fun q h => by rw [← hAe]; exact Or.inr h
  obtain ⟨H, hHe⟩ : ∃ H : Heap, H = s.heap := ⟨_, rfl⟩
  rw [← hHe] at hF ⊢
  have hS : va_S A s.heap H [] := by rw [hHe]; exact va_S.rf
  have hP := hF
  have hAin : ∀ k : Nat, k < 20 → A (ad k) := fun k hk => by rw [← hAe]; exact Or.inl ⟨k, hk, rfl⟩
  have hnC := iv_nC hI
  have hl := lv_entry ([.ref (ad 1), .int (zI (ld)), .int (zI (st))]) (n := 6) (Nat.le_of_ble_eq_true rfl)
  rw [lg_entry_eq]
  generalize (lg_sl ([.ref (ad 1), .int (zI (ld)), .int (zI (st))]) ++ List.replicate (6 - (lg_sl ([.ref (ad 1), .int (zI (ld)), .int (zI (st))])).length) Slot.unset).toArray = ls at hl ⊢
  have hl : lv_has ls 6 [(0, .ref (ad 1)), (1, .int (zI (ld))), (2, .int (zI (st)))] := hl
  refine lv_iconst (pc := 0) (v := zI 0) hx hb dX6_clean_0 rfl ?_
  refine lv_istore_n (pc := 1) (lv' := [(3, .int (zI (0))), (0, .ref (ad 1)), (1, .int (zI (ld))), (2, .int (zI (st)))]) hx hb dX6_clean_1 rfl hl (by decide) rfl (fun ls hl => ?_)
  refine lv_iconst (pc := 2) (v := zI 0) hx hb dX6_clean_2 rfl ?_
  refine lv_istore (pc := 3) (lv' := [(4, .int (zI (0))), (3, .int (zI (0))), (0, .ref (ad 1)), (1, .int (zI (ld))), (2, .int (zI (st)))]) hx hb dX6_clean_3 hl (by decide) rfl (fun ls hl => ?_)
  refine zr_hloop2 (fun (i : Nat) (x : Int) (H : Heap) => ((i : Int) ≤ g 0) ∧ (x = sm (fun k => less g ld st k) i) ∧ (∃ σ' : Nat → Int → Int, Rel σ' (clnG g ld st i) ∧ zW D ad 20 (sC cI ad σ') H)) (fun (i : Nat) (x : Int) => (g 0 : Int).toNat - i) (fun (i : Nat) (x : Int) => [(0, .ref (ad 1)), (1, .int (zI (ld))), (2, .int (zI (st))), (3, .int (zI (x))), (4, .int (zI ((i : Int))))]) ?_ (0) (0) (⟨by omega, by rw [sm_0], ⟨_, hR, hP⟩⟩) hS (lv_sub hl [2, 3, 4, 1, 0] rfl)
  intro i x H locs hinv hS ih_5 ls hl
  obtain ⟨h_i, h_x, hE⟩ := hinv
  obtain ⟨σ2, hR2, hP⟩ := hE
  obtain ⟨hI2, hg0⟩ := inv_cln hI (ld := ld) st0 i h_i
  have hg6 : ∀ k : Int, (i : Int) ≤ k → gC (clnG g ld st i) k 6 = gC g k 6 := fun k hk => clnG_o g ld st i (fun j j0 j1 => by omega)
  refine lv_iload (pc := 5) hx hb dX6_clean_5 (lv_at hl 4 rfl) ?_
  refine lv_aload_n (pc := 7) hx hb dX6_clean_7 rfl (lv_at hl 0 rfl) ?_
  refine zr_get (pc := 8) S hK (hP 1 (by decide)) rfl i_X6 0 (by decide) (List.mem_of_getElem? (i := 1) rfl) rfl dX6_clean_8 ?_
  refine zr_top (b := (clnG g ld st i) 0) (rl_nC hR2) ?_
  refine zr_icmp_ge (pc := 11) (tgt := 70) hx hb dX6_clean_11 (by decide) (by omega) (by omega) (fun c_11 => ?_) (fun c_11 => ?_)
  · rw [hg0] at c_11
    refine lv_iload_n (pc := 70) hx hb dX6_clean_70 rfl (lv_at hl 3 rfl) ?_
    exact W.iret (v := zI (x)) hx hb hr (fun tz ht hW => ⟨⟨zI (x), zI (x), rfl, rfl, by dsimp only; rw [ht]; exact ⟨by rw [h_x, show i = (g 0).toNat by omega], _, by rw [show (g 0).toNat = i by omega]; exact hR2, hP⟩⟩, hS.F ht⟩) hS.2.2 dX6_clean_71
  · rw [hg0] at c_11
    refine lv_iload_n (pc := 14) hx hb dX6_clean_14 rfl (lv_at hl 1 rfl) ?_
    refine lv_iload (pc := 15) hx hb dX6_clean_15 (lv_at hl 4 rfl) ?_
    refine zr_ni (pc := 17) (As := [.int (zI (ld)), .int (zI ((i : Int)))]) (rest := []) S (ct_X7_isIn l D cI cT ld ((i : Int)) (by omega) (by omega) (by omega) (by omega)) (va_cnB 2 hts gX6_clean_X7_isIn_n65 rfl rfl rfl (zK_nest hK 22 rfl) (hts _ (List.mem_of_getElem? (i := 8) rfl)) (by decide +kernel) ⟨Nat.le_of_ble_eq_true rfl, Nat.le_of_ble_eq_true rfl⟩) (hts _ (List.mem_of_getElem? (i := 7) rfl)) zs0 hK trivial rfl hl.1 rfl (Nat.le_of_ble_eq_true rfl) dX6_clean_17 ⟨Nat.le_of_ble_eq_true rfl, Nat.le_of_ble_eq_true rfl⟩ (fun r_17 hr_17 => ?_)
    rcases hr_17 with ⟨hb_17, rfl⟩ | ⟨hb_17, rfl⟩
    · refine zr_if_eq (pc := 20) (tgt := 64) hx hb dX6_clean_20 (by decide) (by decide) (fun z => absurd z (by decide)) (fun _ => ?_)
      have hdi := iv_di hI (c := (i : Int)) (by omega) (by omega)
      refine lv_aload_n (pc := 23) hx hb dX6_clean_23 rfl (lv_at hl 0 rfl) ?_
      refine zr_get (pc := 24) S hK (hP 1 (by decide)) rfl i_X6 5 (by decide) (List.mem_of_getElem? (i := 2) rfl) rfl dX6_clean_24 ?_
      refine lv_iload (pc := 27) hx hb dX6_clean_27 (lv_at hl 4 rfl) ?_
      refine zr_ni (pc := 29) (As := [.ref (ad 9), .int (zI ((i : Int)))]) (rest := []) S (ct_X7_at l D cI cT (ad 9) 16 _ ((i : Int)) (gC g i 6) (by decide) (by omega) (by omega) ((rl_di hR2 (by omega) (by omega)).trans (hg6 _ (by omega))) (by omega)) (va_cnB 2 hts gX6_clean_X7_at_n48 rfl rfl rfl (zK_nest hK 13 rfl) (hts _ (List.mem_of_getElem? (i := 8) rfl)) (by decide +kernel) ⟨Nat.le_of_ble_eq_true rfl, Nat.le_of_ble_eq_true rfl⟩) (hts _ (List.mem_of_getElem? (i := 10) rfl)) zs_ar hK (zAr_of (zK_int hK) (hP 9 (by decide))) rfl hl.1 rfl (Nat.le_of_ble_eq_true rfl) dX6_clean_29 ⟨Nat.le_of_ble_eq_true rfl, Nat.le_of_ble_eq_true rfl⟩ (fun r_29 hr_29 => ?_)
      subst hr_29
      refine lv_iload_n (pc := 32) hx hb dX6_clean_32 rfl (lv_at hl 2 rfl) ?_
      refine zr_mmin (pc := 33) hx hb (hml.trans hl.1.symm) hown (hts _ (List.mem_of_getElem? (i := 3) rfl)) (hts _ (List.mem_of_getElem? (i := 4) rfl)) (hts _ (List.mem_of_getElem? (i := 5) rfl)) (hts _ (List.mem_of_getElem? (i := 6) rfl)) (Nat.le_of_ble_eq_true rfl) (Nat.le_of_ble_eq_true rfl) (Nat.le_of_ble_eq_true rfl) (Nat.le_of_ble_eq_true rfl) dX6_clean_33 (by omega) (by omega) (rfl : _ = min (gC g i 6) st) ?_
      refine lv_istore (pc := 36) (lv' := [(5, .int (zI (min (gC g i 6) st))), (0, .ref (ad 1)), (1, .int (zI (ld))), (2, .int (zI (st))), (3, .int (zI (x))), (4, .int (zI ((i : Int))))]) hx hb dX6_clean_36 hl (by decide) rfl (fun ls hl => ?_)
      refine lv_aload_n (pc := 38) hx hb dX6_clean_38 rfl (lv_at hl 1 rfl) ?_
      refine zr_get (pc := 39) S hK (hP 1 (by decide)) rfl i_X6 5 (by decide) (List.mem_of_getElem? (i := 2) rfl) rfl dX6_clean_39 ?_
      refine lv_iload (pc := 42) hx hb dX6_clean_42 (lv_at hl 5 rfl) ?_
      refine lv_aload_n (pc := 44) hx hb dX6_clean_44 rfl (lv_at hl 1 rfl) ?_
      refine zr_get (pc := 45) S hK (hP 1 (by decide)) rfl i_X6 5 (by decide) (List.mem_of_getElem? (i := 2) rfl) rfl dX6_clean_45 ?_
      refine lv_iload (pc := 48) hx hb dX6_clean_48 (lv_at hl 5 rfl) ?_
      refine zr_ni (pc := 50) (As := [.ref (ad 9), .int (zI ((i : Int)))]) (rest := [.int (zI ((i : Int))), .ref (ad 9)]) S (ct_X7_at l D cI cT (ad 9) 16 _ ((i : Int)) (gC g i 6) (by decide) (by omega) (by omega) ((rl_di hR2 (by omega) (by omega)).trans (hg6 _ (by omega))) (by omega)) (va_cnB 2 hts gX6_clean_X7_at_n48 rfl rfl rfl (zK_nest hK 13 rfl) (hts _ (List.mem_of_getElem? (i := 8) rfl)) (by decide +kernel) ⟨Nat.le_of_ble_eq_true rfl, Nat.le_of_ble_eq_true rfl⟩) (hts _ (List.mem_of_getElem? (i := 10) rfl)) zs_ar hK (zAr_of (zK_int hK) (hP 9 (by decide))) rfl hl.1 rfl (Nat.le_of_ble_eq_true rfl) dX6_clean_50 ⟨Nat.le_of_ble_eq_true rfl, Nat.le_of_ble_eq_true rfl⟩ (fun r_50 hr_50 => ?_)
      subst hr_50
      refine lv_iload (pc := 53) hx hb dX6_clean_53 (lv_at hl 0 rfl) ?_
      refine zr_isub (pc := 55) (d := (gC g i 6) - (min (gC g i 6) st)) hx hb dX6_clean_55 rfl ?_
      refine zr_nwv (pc := 56) (As := [.ref (ad 9), .int (zI ((i : Int))), .int (zI ((gC g i 6) - (min (gC g i 6) st)))]) (rest := []) S (ct_X7_put l D cI cT H.size (ad 9) 16 _ ((i : Int)) ((gC g i 6) - (min (gC g i 6) st)) (by decide) (by omega) (by omega)) (va_cnB 3 hts gX6_clean_X7_put_n44 rfl rfl rfl (zK_nest hK 10 rfl) (hts _ (List.mem_of_getElem? (i := 8) rfl)) (by decide +kernel) ⟨Nat.le_of_ble_eq_true rfl, Nat.le_of_ble_eq_true rfl⟩) (hts _ (List.mem_of_getElem? (i := 12) rfl)) zs0 hK (hP 9 (by decide)) hS (fun q h => h.elim (fun e => by rw [e]; exact (hAin 9 (by decide))) (fun z => hAn q (Nat.le_trans hS.1 z))) rfl hl.1 rfl (Nat.le_of_ble_eq_true rfl) dX6_clean_56 ⟨Nat.le_of_ble_eq_true rfl, Nat.le_of_ble_eq_true rfl⟩ (fun H locs hG hz hk hS => ?_)
      have hP := zW.put hP hJ 9 (by decide) hG (fun q h1 h2 => hk q h1 (fun z => z.elim h2 (fun y => absurd h1 (Nat.not_lt.mpr y)))) (sC_a 9 (by decide) _ _)
      refine lv_iload_n (pc := 59) hx hb dX6_clean_59 rfl (lv_at hl 4 rfl) ?_
      refine lv_iload (pc := 60) hx hb dX6_clean_60 (lv_at hl 0 rfl) ?_
      refine zr_iadd (pc := 62) (d := x + (min (gC g i 6) st)) hx hb dX6_clean_62 rfl ?_
      refine lv_istore_n (pc := 63) (lv' := [(3, .int (zI (x + (min (gC g i 6) st)))), (5, .int (zI (min (gC g i 6) st))), (0, .ref (ad 1)), (1, .int (zI (ld))), (2, .int (zI (st))), (4, .int (zI ((i : Int))))]) hx hb dX6_clean_63 rfl hl (by decide) rfl (fun ls hl => ?_)
      refine zr_iinc (pc := 64) (d := ((i : Int)) + 1) (lv' := [(4, .int (zI (((i : Int)) + 1))), (3, .int (zI (x + (min (gC g i 6) st)))), (5, .int (zI (min (gC g i 6) st))), (0, .ref (ad 1)), (1, .int (zI (ld))), (2, .int (zI (st)))]) hx hb dX6_clean_64 hl (k := 5) rfl rfl (by decide) rfl (fun ls hl => ?_)
      refine lv_goto (pc := 67) (tgt := 5) hx hb dX6_clean_67 (by decide) ?_
      exact ih_5 (i + 1) ((x + (min (gC g i 6) st))) H locs (⟨by omega, by rw [sm_s]; first | (rw [less, tif_t hb_17]; omega) | (rw [less, tif_f hb_17]; omega), by first | (rw [clnG_n hb_17]; exact ⟨_, hR2, hP⟩) | (rw [clnG_y hb_17]; exact ⟨_, rel_di (by omega) (by omega) hR2 hI2, hP⟩)⟩) hS (by omega) ls (lv_sub hl [3, 4, 5, 1, 0] rfl)
    · refine zr_if_eq (pc := 20) (tgt := 64) hx hb dX6_clean_20 (by decide) (by decide) (fun _ => ?_) (fun z => absurd z (by decide))
      refine zr_iinc (pc := 64) (d := ((i : Int)) + 1) (lv' := [(4, .int (zI (((i : Int)) + 1))), (0, .ref (ad 1)), (1, .int (zI (ld))), (2, .int (zI (st))), (3, .int (zI (x)))]) hx hb dX6_clean_64 hl (k := 4) rfl rfl (by decide) rfl (fun ls hl => ?_)
      refine lv_goto (pc := 67) (tgt := 5) hx hb dX6_clean_67 (by decide) ?_
      exact ih_5 (i + 1) (x) H locs (⟨by omega, by rw [sm_s]; first | (rw [less, tif_t hb_17]; omega) | (rw [less, tif_f hb_17]; omega), by first | (rw [clnG_n hb_17]; exact ⟨_, hR2, hP⟩) | (rw [clnG_y hb_17]; exact ⟨_, rel_di (by omega) (by omega) hR2 hI2, hP⟩)⟩) hS (by omega) ls (lv_sub hl [1, 2, 3, 4, 0] rfl)
set_option maxHeartbeats 4000000 in
set_option maxRecDepth 100000 in
theorem ct_X0_dress (l : Launch) (D : va_G) (cI cT : ClassId) (sz : Nat) (ad : Nat → Nat) (σ : Nat → Int → Int) (g : Int → Int) (hR : Rel σ g) (hI : Inv g) (hJ : zJ ad 20) (sc : Int) (a : Int) (c : Int) (s0 : 0 ≤ sc) (s1 : sc < 12) (a0 : 0 ≤ a) (a1 : a < g 1) : zMi l yX0_dress wsX0_dress ({ frames := 2, cells := 0, slots := 0, locals := 43 }) D cI cT [.ref (ad 2), .int (zI (sc)), .int (zI (a)), .int (zI (c))] sz (fun _ H => zW D ad 20 (sC cI ad σ) H) (fun rr H => rr = zI (gW g sc a) ∧ ∃ σ' : Nat → Int → Int, Rel σ' (zu g (356 + 8 * sc + a) c) ∧ zW D ad 20 (sC cI ad σ') H) (zR ad 20 sz) := by
  refine Met.ofW (cc := cX0_dress) (maxL := 5) (ret := (some .int)) (by decide) rfl ?_
  intro p_ e_ s m_ args below meth c_ s₁ B hml hv
  obtain ⟨rfl, hsz, hK, hF⟩ := hv
  have hx := B.exec
  have hb := B.bytes
  have hr := B.returns
  have hts := atoms_spec (ws := wsX0_dress) B.pre
  have hown : s.vm.findClass RX0 = some m_.cls := findClass_of_methodNamed B.named
  have hlocks := B.notSynchronized
  have S : CallFix p_ m_ c_ cX0_dress 5 s _ wsX0_dress RX0 := ⟨hx, hb, hml, hown, hts⟩
  have i_X0 : ∀ w ∈ u_ws RX0 TX0 3, w ∈ wsX0_dress := fun _ h => List.mem_cons_of_mem _ (List.mem_append_right _ h)
  subst hsz
  generalize hAe : (zR ad 20 s.heap.size) = A
  have hAn : ∀ q : Nat, s.heap.size ≤ q → A q := fun q h => by rw [← hAe]; exact Or.inr h
  obtain ⟨H, hHe⟩ : ∃ H : Heap, H = s.heap := ⟨_, rfl⟩
  rw [← hHe] at hF ⊢
  have hS : va_S A s.heap H [] := by rw [hHe]; exact va_S.rf
  have hP := hF
  have hAin : ∀ k : Nat, k < 20 → A (ad k) := fun k hk => by rw [← hAe]; exact Or.inl ⟨k, hk, rfl⟩
  have hnA := iv_nA hI
  have hnC := iv_nC hI
  have hl := lv_entry ([.ref (ad 2), .int (zI (sc)), .int (zI (a)), .int (zI (c))]) (n := 5) (Nat.le_of_ble_eq_true rfl)
  rw [lg_entry_eq]
  generalize (lg_sl ([.ref (ad 2), .int (zI (sc)), .int (zI (a)), .int (zI (c))]) ++ List.replicate (5 - (lg_sl ([.ref (ad 2), .int (zI (sc)), .int (zI (a)), .int (zI (c))])).length) Slot.unset).toArray = ls at hl ⊢
  have hl : lv_has ls 5 [(0, .ref (ad 2)), (1, .int (zI (sc))), (2, .int (zI (a))), (3, .int (zI (c)))] := hl
  refine lv_aload_n (pc := 0) hx hb dX0_dress_0 rfl (lv_at hl 0 rfl) ?_
  refine lv_iload_n (pc := 1) hx hb dX0_dress_1 rfl (lv_at hl 1 rfl) ?_
  refine lv_iload_n (pc := 2) hx hb dX0_dress_2 rfl (lv_at hl 2 rfl) ?_
  refine zr_vi (pc := 3) (As := [.int (zI (sc)), .int (zI (a))]) (rest := []) S (ct_X0_wornIn l D cI cT ad σ g hR hI sc a (by omega) (by omega) (by omega) (by omega)) (cwV 2 hts gX0_dress_X0_wornIn rfl rfl rfl (by decide +kernel) ⟨Nat.le_of_ble_eq_true rfl, Nat.le_of_ble_eq_true rfl⟩) zs0 hK hP (zr_recv hK (hP 2 (by decide)) rfl) rfl hl.1 rfl (Nat.le_of_ble_eq_true rfl) dX0_dress_3 ⟨Nat.le_of_ble_eq_true rfl, Nat.le_of_ble_eq_true rfl⟩ (fun r_3 hr_3 => ?_)
  subst hr_3
  have hw_3 := iv_wo hI (a := a) (sc := sc) (by omega) (by omega) (by omega) (by omega)
  refine lv_istore (pc := 6) (lv' := [(4, .int (zI (gW g sc a))), (0, .ref (ad 2)), (1, .int (zI (sc))), (2, .int (zI (a))), (3, .int (zI (c)))]) hx hb dX0_dress_6 hl (by decide) rfl (fun ls hl => ?_)
  refine lv_aload_n (pc := 8) hx hb dX0_dress_8 rfl (lv_at hl 1 rfl) ?_
  refine zr_get (pc := 9) S hK (hP 2 (by decide)) rfl i_X0 2 (by decide) (List.mem_of_getElem? (i := 1) rfl) rfl dX0_dress_9 ?_
  refine lv_iload_n (pc := 12) hx hb dX0_dress_12 rfl (lv_at hl 2 rfl) ?_
  refine lv_bipush (pc := 13) (v := zI 8) hx hb dX0_dress_13 zc_bipush_8 ?_
  refine zr_imul (pc := 15) (d := sc * 8) hx hb dX0_dress_15 rfl ?_
  refine lv_iload_n (pc := 16) hx hb dX0_dress_16 rfl (lv_at hl 3 rfl) ?_
  refine zr_iadd (pc := 17) (d := (sc * 8) + a) hx hb dX0_dress_17 rfl ?_
  refine lv_iload_n (pc := 18) hx hb dX0_dress_18 rfl (lv_at hl 4 rfl) ?_
  refine zr_nwv (pc := 19) (As := [.ref (ad 14), .int (zI ((sc * 8) + a)), .int (zI (c))]) (rest := []) S (ct_X7_put l D cI cT H.size (ad 14) 96 _ ((sc * 8) + a) c (by decide) (by omega) (by omega)) (va_cnB 3 hts gX0_dress_X7_put_n26 rfl rfl rfl (zK_nest hK 11 rfl) (hts _ (List.mem_of_getElem? (i := 8) rfl)) (by decide +kernel) ⟨Nat.le_of_ble_eq_true rfl, Nat.le_of_ble_eq_true rfl⟩) (hts _ (List.mem_of_getElem? (i := 10) rfl)) zs0 hK (hP 14 (by decide)) hS (fun q h => h.elim (fun e => by rw [e]; exact (hAin 14 (by decide))) (fun z => hAn q (Nat.le_trans hS.1 z))) rfl hl.1 rfl (Nat.le_of_ble_eq_true rfl) dX0_dress_19 ⟨Nat.le_of_ble_eq_true rfl, Nat.le_of_ble_eq_true rfl⟩ (fun H locs hG hz hk hS => ?_)
  have hP := zW.put hP hJ 14 (by decide) hG (fun q h1 h2 => hk q h1 (fun z => z.elim h2 (fun y => absurd h1 (Nat.not_lt.mpr y)))) (sC_a 14 (by decide) _ _)
  refine lv_iload (pc := 22) hx hb dX0_dress_22 (lv_at hl 0 rfl) ?_
  exact W.iret (v := zI (gW g sc a)) hx hb hr (fun tz ht hW => ⟨⟨zI (gW g sc a), zI (gW g sc a), rfl, rfl, by dsimp only; rw [ht]; exact ⟨rfl, _, rel_wo s0 s1 a0 a1 hR hI, hP⟩⟩, hS.F ht⟩) hS.2.2 dX0_dress_24
set_option maxHeartbeats 4000000 in
set_option maxRecDepth 100000 in
theorem ct_X0_add (l : Launch) (D : va_G) (cI cT : ClassId) (sz : Nat) (ad : Nat → Nat) (σ : Nat → Int → Int) (g : Int → Int) (hR : Rel σ g) (hI : Inv g) (hJ : zJ ad 20) (ch : Int) (wa : Int) (le : Int) (hn : g 1 < 8) : zMi l yX0_add wsX0_add ({ frames := 1, cells := 0, slots := 0, locals := 22 }) D cI cT [.ref (ad 2), .int (zI (ch)), .int (zI (wa)), .int (zI (le))] sz (fun _ H => zW D ad 20 (sC cI ad σ) H) (fun rr H => rr = zI (g 1) ∧ ∃ σ' : Nat → Int → Int, Rel σ' (mkA g ch wa le) ∧ zW D ad 20 (sC cI ad σ') H) (zR ad 20 sz) := by
  refine Met.ofW (cc := cX0_add) (maxL := 6) (ret := (some .int)) (by decide) rfl ?_
  intro p_ e_ s m_ args below meth c_ s₁ B hml hv
  obtain ⟨rfl, hsz, hK, hF⟩ := hv
  have hx := B.exec
  have hb := B.bytes
  have hr := B.returns
  have hts := atoms_spec (ws := wsX0_add) B.pre
  have hown : s.vm.findClass RX0 = some m_.cls := findClass_of_methodNamed B.named
  have hlocks := B.notSynchronized
  have S : CallFix p_ m_ c_ cX0_add 6 s _ wsX0_add RX0 := ⟨hx, hb, hml, hown, hts⟩
  have i_X0 : ∀ w ∈ u_ws RX0 TX0 3, w ∈ wsX0_add := fun _ h => List.mem_cons_of_mem _ (List.mem_append_right _ h)
  subst hsz
  generalize hAe : (zR ad 20 s.heap.size) = A
  have hAn : ∀ q : Nat, s.heap.size ≤ q → A q := fun q h => by rw [← hAe]; exact Or.inr h
  obtain ⟨H, hHe⟩ : ∃ H : Heap, H = s.heap := ⟨_, rfl⟩
  rw [← hHe] at hF ⊢
  have hS : va_S A s.heap H [] := by rw [hHe]; exact va_S.rf
  have hP := hF
  have hAin : ∀ k : Nat, k < 20 → A (ad k) := fun k hk => by rw [← hAe]; exact Or.inl ⟨k, hk, rfl⟩
  have hnA := iv_nA hI
  have hl := lv_entry ([.ref (ad 2), .int (zI (ch)), .int (zI (wa)), .int (zI (le))]) (n := 6) (Nat.le_of_ble_eq_true rfl)
  rw [lg_entry_eq]
  generalize (lg_sl ([.ref (ad 2), .int (zI (ch)), .int (zI (wa)), .int (zI (le))]) ++ List.replicate (6 - (lg_sl ([.ref (ad 2), .int (zI (ch)), .int (zI (wa)), .int (zI (le))])).length) Slot.unset).toArray = ls at hl ⊢
  have hl : lv_has ls 6 [(0, .ref (ad 2)), (1, .int (zI (ch))), (2, .int (zI (wa))), (3, .int (zI (le)))] := hl
  refine lv_aload_n (pc := 0) hx hb dX0_add_0 rfl (lv_at hl 0 rfl) ?_
  refine zr_get (pc := 1) S hK (hP 2 (by decide)) rfl i_X0 0 (by decide) (List.mem_of_getElem? (i := 1) rfl) rfl dX0_add_1 ?_
  refine zr_top (b := g 1) (rl_nA hR) ?_
  refine lv_istore (pc := 4) (lv' := [(4, .int (zI (g 1))), (0, .ref (ad 2)), (1, .int (zI (ch))), (2, .int (zI (wa))), (3, .int (zI (le)))]) hx hb dX0_add_4 hl (by decide) rfl (fun ls hl => ?_)
  refine lv_aload_n (pc := 6) hx hb dX0_add_6 rfl (lv_at hl 1 rfl) ?_
  refine zr_get (pc := 7) S hK (hP 2 (by decide)) rfl i_X0 1 (by decide) (List.mem_of_getElem? (i := 2) rfl) rfl dX0_add_7 ?_
  refine lv_iload (pc := 10) hx hb dX0_add_10 (lv_at hl 0 rfl) ?_
  refine lv_iconst (pc := 12) (v := zI 3) hx hb dX0_add_12 rfl ?_
  refine zr_imul (pc := 13) (d := (g 1) * 3) hx hb dX0_add_13 rfl ?_
  refine lv_iload_n (pc := 14) hx hb dX0_add_14 rfl (lv_at hl 2 rfl) ?_
  refine zr_nwv (pc := 15) (As := [.ref (ad 13), .int (zI ((g 1) * 3)), .int (zI (ch))]) (rest := []) S (ct_X7_put l D cI cT H.size (ad 13) 24 _ ((g 1) * 3) ch (by decide) (by omega) (by omega)) (va_cnB 3 hts gX0_add_X7_put_n26 rfl rfl rfl (zK_nest hK 11 rfl) (hts _ (List.mem_of_getElem? (i := 5) rfl)) (by decide +kernel) ⟨Nat.le_of_ble_eq_true rfl, Nat.le_of_ble_eq_true rfl⟩) (hts _ (List.mem_of_getElem? (i := 4) rfl)) zs0 hK (hP 13 (by decide)) hS (fun q h => h.elim (fun e => by rw [e]; exact (hAin 13 (by decide))) (fun z => hAn q (Nat.le_trans hS.1 z))) rfl hl.1 rfl (Nat.le_of_ble_eq_true rfl) dX0_add_15 ⟨Nat.le_of_ble_eq_true rfl, Nat.le_of_ble_eq_true rfl⟩ (fun H locs hG hz hk hS => ?_)
  have hP := zW.put hP hJ 13 (by decide) hG (fun q h1 h2 => hk q h1 (fun z => z.elim h2 (fun y => absurd h1 (Nat.not_lt.mpr y)))) (sC_a 13 (by decide) _ _)
  refine lv_aload_n (pc := 18) hx hb dX0_add_18 rfl (lv_at hl 1 rfl) ?_
  refine zr_get (pc := 19) S hK (hP 2 (by decide)) rfl i_X0 1 (by decide) (List.mem_of_getElem? (i := 2) rfl) rfl dX0_add_19 ?_
  refine lv_iload (pc := 22) hx hb dX0_add_22 (lv_at hl 0 rfl) ?_
  refine lv_iconst (pc := 24) (v := zI 3) hx hb dX0_add_24 rfl ?_
  refine zr_imul (pc := 25) (d := (g 1) * 3) hx hb dX0_add_25 rfl ?_
  refine lv_iconst (pc := 26) (v := zI 1) hx hb dX0_add_26 rfl ?_
  refine zr_iadd (pc := 27) (d := ((g 1) * 3) + 1) hx hb dX0_add_27 rfl ?_
  refine lv_iload_n (pc := 28) hx hb dX0_add_28 rfl (lv_at hl 3 rfl) ?_
  refine zr_nwv (pc := 29) (As := [.ref (ad 13), .int (zI (((g 1) * 3) + 1)), .int (zI (wa))]) (rest := []) S (ct_X7_put l D cI cT H.size (ad 13) 24 _ (((g 1) * 3) + 1) wa (by decide) (by omega) (by omega)) (va_cnB 3 hts gX0_add_X7_put_n26 rfl rfl rfl (zK_nest hK 11 rfl) (hts _ (List.mem_of_getElem? (i := 5) rfl)) (by decide +kernel) ⟨Nat.le_of_ble_eq_true rfl, Nat.le_of_ble_eq_true rfl⟩) (hts _ (List.mem_of_getElem? (i := 4) rfl)) zs0 hK (hP 13 (by decide)) hS (fun q h => h.elim (fun e => by rw [e]; exact (hAin 13 (by decide))) (fun z => hAn q (Nat.le_trans hS.1 z))) rfl hl.1 rfl (Nat.le_of_ble_eq_true rfl) dX0_add_29 ⟨Nat.le_of_ble_eq_true rfl, Nat.le_of_ble_eq_true rfl⟩ (fun H locs hG hz hk hS => ?_)
  have hP := zW.put hP hJ 13 (by decide) hG (fun q h1 h2 => hk q h1 (fun z => z.elim h2 (fun y => absurd h1 (Nat.not_lt.mpr y)))) (sC_a 13 (by decide) _ _)
  refine lv_aload_n (pc := 32) hx hb dX0_add_32 rfl (lv_at hl 1 rfl) ?_
  refine zr_get (pc := 33) S hK (hP 2 (by decide)) rfl i_X0 1 (by decide) (List.mem_of_getElem? (i := 2) rfl) rfl dX0_add_33 ?_
  refine lv_iload (pc := 36) hx hb dX0_add_36 (lv_at hl 0 rfl) ?_
  refine lv_iconst (pc := 38) (v := zI 3) hx hb dX0_add_38 rfl ?_
  refine zr_imul (pc := 39) (d := (g 1) * 3) hx hb dX0_add_39 rfl ?_
  refine lv_iconst (pc := 40) (v := zI 2) hx hb dX0_add_40 rfl ?_
  refine zr_iadd (pc := 41) (d := ((g 1) * 3) + 2) hx hb dX0_add_41 rfl ?_
  refine lv_iload_n (pc := 42) hx hb dX0_add_42 rfl (lv_at hl 4 rfl) ?_
  refine zr_nwv (pc := 43) (As := [.ref (ad 13), .int (zI (((g 1) * 3) + 2)), .int (zI (le))]) (rest := []) S (ct_X7_put l D cI cT H.size (ad 13) 24 _ (((g 1) * 3) + 2) le (by decide) (by omega) (by omega)) (va_cnB 3 hts gX0_add_X7_put_n26 rfl rfl rfl (zK_nest hK 11 rfl) (hts _ (List.mem_of_getElem? (i := 5) rfl)) (by decide +kernel) ⟨Nat.le_of_ble_eq_true rfl, Nat.le_of_ble_eq_true rfl⟩) (hts _ (List.mem_of_getElem? (i := 4) rfl)) zs0 hK (hP 13 (by decide)) hS (fun q h => h.elim (fun e => by rw [e]; exact (hAin 13 (by decide))) (fun z => hAn q (Nat.le_trans hS.1 z))) rfl hl.1 rfl (Nat.le_of_ble_eq_true rfl) dX0_add_43 ⟨Nat.le_of_ble_eq_true rfl, Nat.le_of_ble_eq_true rfl⟩ (fun H locs hG hz hk hS => ?_)
  have hP := zW.put hP hJ 13 (by decide) hG (fun q h1 h2 => hk q h1 (fun z => z.elim h2 (fun y => absurd h1 (Nat.not_lt.mpr y)))) (sC_a 13 (by decide) _ _)
  refine lv_iconst (pc := 46) (v := zI 0) hx hb dX0_add_46 rfl ?_
  refine lv_istore (pc := 47) (lv' := [(5, .int (zI (0))), (4, .int (zI (g 1))), (0, .ref (ad 2)), (1, .int (zI (ch))), (2, .int (zI (wa))), (3, .int (zI (le)))]) hx hb dX0_add_47 hl (by decide) rfl (fun ls hl => ?_)
  refine zr_hloop1 (fun (i : Nat) (H : Heap) => ((i : Int) ≤ 12) ∧ (zW D ad 20 (sC cI ad (wl (su (su (su σ 13 ((g 1) * 3) ch) 13 (((g 1) * 3) + 1) wa) 13 (((g 1) * 3) + 2) le) (g 1) i)) H)) (fun (i : Nat) => 12 - i) (fun (i : Nat) => [(4, .int (zI (g 1))), (0, .ref (ad 2)), (1, .int (zI (ch))), (2, .int (zI (wa))), (3, .int (zI (le))), (5, .int (zI ((i : Int))))]) ?_ (0) (⟨by omega, by rw [wl_0]; exact hP⟩) hS (lv_sub hl [1, 2, 3, 4, 5, 0] rfl)
  intro i H locs hinv hS ih_49 ls hl
  obtain ⟨h_i, hP⟩ := hinv
  refine lv_iload (pc := 49) hx hb dX0_add_49 (lv_at hl 5 rfl) ?_
  refine lv_bipush (pc := 51) (v := zI 12) hx hb dX0_add_51 zc_bipush_12 ?_
  refine zr_icmp_ge (pc := 53) (tgt := 78) hx hb dX0_add_53 (by decide) (by omega) (by decide) (fun c_53 => ?_) (fun c_53 => ?_)
  · refine lv_aload_n (pc := 78) hx hb dX0_add_78 rfl (lv_at hl 1 rfl) ?_
    refine lv_dup (pc := 79) hx hb dX0_add_79 rfl ?_
    refine zr_get (pc := 80) S hK (hP 2 (by decide)) rfl i_X0 0 (by decide) (List.mem_of_getElem? (i := 1) rfl) rfl dX0_add_80 ?_
    refine zr_top (b := g 1) (by rw [wl_o _ _ _ (by decide), su_n (by decide), su_n (by decide), su_n (by decide)]; exact rl_nA hR) ?_
    refine lv_iconst (pc := 83) (v := zI 1) hx hb dX0_add_83 rfl ?_
    refine zr_iadd (pc := 84) (d := (g 1) + 1) hx hb dX0_add_84 rfl ?_
    refine zr_put (pc := 85) S hK (hP 2 (by decide)) rfl i_X0 tyX0 tyX0_ok nmX0 0 (by decide) (List.mem_of_getElem? (i := 1) rfl) rfl rfl rfl (Nat.le_of_ble_eq_true rfl) hS (hAin 2 (by decide)) dX0_add_85 (fun H locs hO hz hk hS => ?_)
    have hP := zW.put hP hJ 2 (by decide) hO hk (sC_2_0 ((g 1) + 1))
    refine lv_iload (pc := 88) hx hb dX0_add_88 (lv_at hl 0 rfl) ?_
    exact W.iret (v := zI (g 1)) hx hb hr (fun tz ht hW => ⟨⟨zI (g 1), zI (g 1), rfl, rfl, by dsimp only; rw [ht]; exact ⟨rfl, _, by have e : i = 12 := (by omega); subst e; exact rel_mkA hR hI hn, hP⟩⟩, hS.F ht⟩) hS.2.2 dX0_add_90
  · refine lv_aload_n (pc := 56) hx hb dX0_add_56 rfl (lv_at hl 1 rfl) ?_
    refine zr_get (pc := 57) S hK (hP 2 (by decide)) rfl i_X0 2 (by decide) (List.mem_of_getElem? (i := 3) rfl) rfl dX0_add_57 ?_
    refine lv_iload (pc := 60) hx hb dX0_add_60 (lv_at hl 5 rfl) ?_
    refine lv_bipush (pc := 62) (v := zI 8) hx hb dX0_add_62 zc_bipush_8 ?_
    refine zr_imul (pc := 64) (d := ((i : Int)) * 8) hx hb dX0_add_64 rfl ?_
    refine lv_iload (pc := 65) hx hb dX0_add_65 (lv_at hl 0 rfl) ?_
    refine zr_iadd (pc := 67) (d := (((i : Int)) * 8) + (g 1)) hx hb dX0_add_67 rfl ?_
    refine lv_iconst (pc := 68) (v := zI (-1)) hx hb dX0_add_68 rfl ?_
    refine zr_nwv (pc := 69) (As := [.ref (ad 14), .int (zI ((((i : Int)) * 8) + (g 1))), .int (zI ((-1)))]) (rest := []) S (ct_X7_put l D cI cT H.size (ad 14) 96 _ ((((i : Int)) * 8) + (g 1)) ((-1)) (by decide) (by omega) (by omega)) (va_cnB 3 hts gX0_add_X7_put_n26 rfl rfl rfl (zK_nest hK 11 rfl) (hts _ (List.mem_of_getElem? (i := 5) rfl)) (by decide +kernel) ⟨Nat.le_of_ble_eq_true rfl, Nat.le_of_ble_eq_true rfl⟩) (hts _ (List.mem_of_getElem? (i := 4) rfl)) zs0 hK (hP 14 (by decide)) hS (fun q h => h.elim (fun e => by rw [e]; exact (hAin 14 (by decide))) (fun z => hAn q (Nat.le_trans hS.1 z))) rfl hl.1 rfl (Nat.le_of_ble_eq_true rfl) dX0_add_69 ⟨Nat.le_of_ble_eq_true rfl, Nat.le_of_ble_eq_true rfl⟩ (fun H locs hG hz hk hS => ?_)
    have hP := zW.put hP hJ 14 (by decide) hG (fun q h1 h2 => hk q h1 (fun z => z.elim h2 (fun y => absurd h1 (Nat.not_lt.mpr y)))) (sC_a 14 (by decide) _ _)
    refine zr_iinc (pc := 72) (d := ((i : Int)) + 1) (lv' := [(5, .int (zI (((i : Int)) + 1))), (4, .int (zI (g 1))), (0, .ref (ad 2)), (1, .int (zI (ch))), (2, .int (zI (wa))), (3, .int (zI (le)))]) hx hb dX0_add_72 hl (k := 5) rfl rfl (by decide) rfl (fun ls hl => ?_)
    refine lv_goto (pc := 75) (tgt := 49) hx hb dX0_add_75 (by decide) ?_
    exact ih_49 (i + 1) H locs (⟨by omega, by have h := hP; rw [wl_s _ (by omega) (by omega)] at h; exact h⟩) hS (by omega) ls (lv_sub hl [1, 2, 3, 4, 5, 0] rfl)
set_option maxHeartbeats 4000000 in
set_option maxRecDepth 100000 in
theorem ct_X1_add (l : Launch) (D : va_G) (cI cT : ClassId) (sz : Nat) (ad : Nat → Nat) (σ : Nat → Int → Int) (g : Int → Int) (hR : Rel σ g) (hI : Inv g) (hJ : zJ ad 20) (c : Int) (f : Int) (n : Int) (r : Int) (hn : g 2 < 24) (n0 : 0 ≤ n) (n1 : n ≤ 60) (r0 : 0 ≤ r) (r1 : r ≤ 50) : zMi l yX1_add wsX1_add ({ frames := 1, cells := 0, slots := 0, locals := 22 }) D cI cT [.ref (ad 3), .int (zI (c)), .int (zI (f)), .int (zI (n)), .int (zI (r))] sz (fun _ H => zW D ad 20 (sC cI ad σ) H) (fun rr H => rr = zI (feeF n r) ∧ ∃ σ' : Nat → Int → Int, Rel σ' (mkH g c f n (feeF n r) r) ∧ zW D ad 20 (sC cI ad σ') H) (zR ad 20 sz) := by
  refine Met.ofW (cc := cX1_add) (maxL := 6) (ret := (some .int)) (by decide) rfl ?_
  intro p_ e_ s m_ args below meth c_ s₁ B hml hv
  obtain ⟨rfl, hsz, hK, hF⟩ := hv
  have hx := B.exec
  have hb := B.bytes
  have hr := B.returns
  have hts := atoms_spec (ws := wsX1_add) B.pre
  have hown : s.vm.findClass RX1 = some m_.cls := findClass_of_methodNamed B.named
  have hlocks := B.notSynchronized
  have S : CallFix p_ m_ c_ cX1_add 6 s _ wsX1_add RX1 := ⟨hx, hb, hml, hown, hts⟩
  have i_X1 : ∀ w ∈ u_ws RX1 TX1 6, w ∈ wsX1_add := fun _ h => List.mem_cons_of_mem _ (List.mem_append_right _ h)
  subst hsz
  generalize hAe : (zR ad 20 s.heap.size) = A
  have hAn : ∀ q : Nat, s.heap.size ≤ q → A q := fun q h => by rw [← hAe]; exact Or.inr h
  obtain ⟨H, hHe⟩ : ∃ H : Heap, H = s.heap := ⟨_, rfl⟩
  rw [← hHe] at hF ⊢
  have hS : va_S A s.heap H [] := by rw [hHe]; exact va_S.rf
  have hP := hF
  have hAin : ∀ k : Nat, k < 20 → A (ad k) := fun k hk => by rw [← hAe]; exact Or.inl ⟨k, hk, rfl⟩
  have hnH := iv_nH hI
  have hl := lv_entry ([.ref (ad 3), .int (zI (c)), .int (zI (f)), .int (zI (n)), .int (zI (r))]) (n := 6) (Nat.le_of_ble_eq_true rfl)
  rw [lg_entry_eq]
  generalize (lg_sl ([.ref (ad 3), .int (zI (c)), .int (zI (f)), .int (zI (n)), .int (zI (r))]) ++ List.replicate (6 - (lg_sl ([.ref (ad 3), .int (zI (c)), .int (zI (f)), .int (zI (n)), .int (zI (r))])).length) Slot.unset).toArray = ls at hl ⊢
  have hl : lv_has ls 6 [(0, .ref (ad 3)), (1, .int (zI (c))), (2, .int (zI (f))), (3, .int (zI (n))), (4, .int (zI (r)))] := hl
  refine lv_iload_n (pc := 0) hx hb dX1_add_0 rfl (lv_at hl 3 rfl) ?_
  refine lv_iload (pc := 1) hx hb dX1_add_1 (lv_at hl 4 rfl) ?_
  refine zr_si (pc := 3) (As := [.int (zI (n)), .int (zI (r))]) (rest := []) S (ct_X1_feeFor l D cI cT n r (by omega) (by omega) (by omega) (by omega)) (va_cwS 2 hts gX1_add_X1_feeFor rfl rfl rfl (by decide +kernel) ⟨Nat.le_of_ble_eq_true rfl, Nat.le_of_ble_eq_true rfl⟩) zs0 hK trivial rfl hl.1 rfl (Nat.le_of_ble_eq_true rfl) dX1_add_3 ⟨Nat.le_of_ble_eq_true rfl, Nat.le_of_ble_eq_true rfl⟩ (fun r_3 hr_3 => ?_)
  subst hr_3
  refine lv_istore (pc := 6) (lv' := [(5, .int (zI (feeF n r))), (0, .ref (ad 3)), (1, .int (zI (c))), (2, .int (zI (f))), (3, .int (zI (n))), (4, .int (zI (r)))]) hx hb dX1_add_6 hl (by decide) rfl (fun ls hl => ?_)
  refine lv_aload_n (pc := 8) hx hb dX1_add_8 rfl (lv_at hl 1 rfl) ?_
  refine zr_get (pc := 9) S hK (hP 3 (by decide)) rfl i_X1 1 (by decide) (List.mem_of_getElem? (i := 1) rfl) rfl dX1_add_9 ?_
  refine lv_aload_n (pc := 12) hx hb dX1_add_12 rfl (lv_at hl 1 rfl) ?_
  refine zr_get (pc := 13) S hK (hP 3 (by decide)) rfl i_X1 0 (by decide) (List.mem_of_getElem? (i := 2) rfl) rfl dX1_add_13 ?_
  refine zr_top (b := g 2) (rl_nH hR) ?_
  refine lv_iload_n (pc := 16) hx hb dX1_add_16 rfl (lv_at hl 2 rfl) ?_
  refine zr_nwv (pc := 17) (As := [.ref (ad 15), .int (zI (g 2)), .int (zI (c))]) (rest := []) S (ct_X7_put l D cI cT H.size (ad 15) 24 _ (g 2) c (by decide) (by omega) (by omega)) (va_cnB 3 hts gX1_add_X7_put_n39 rfl rfl rfl (zK_nest hK 20 rfl) (hts _ (List.mem_of_getElem? (i := 12) rfl)) (by decide +kernel) ⟨Nat.le_of_ble_eq_true rfl, Nat.le_of_ble_eq_true rfl⟩) (hts _ (List.mem_of_getElem? (i := 11) rfl)) zs0 hK (hP 15 (by decide)) hS (fun q h => h.elim (fun e => by rw [e]; exact (hAin 15 (by decide))) (fun z => hAn q (Nat.le_trans hS.1 z))) rfl hl.1 rfl (Nat.le_of_ble_eq_true rfl) dX1_add_17 ⟨Nat.le_of_ble_eq_true rfl, Nat.le_of_ble_eq_true rfl⟩ (fun H locs hG hz hk hS => ?_)
  have hP := zW.put hP hJ 15 (by decide) hG (fun q h1 h2 => hk q h1 (fun z => z.elim h2 (fun y => absurd h1 (Nat.not_lt.mpr y)))) (sC_a 15 (by decide) _ _)
  refine lv_aload_n (pc := 20) hx hb dX1_add_20 rfl (lv_at hl 1 rfl) ?_
  refine zr_get (pc := 21) S hK (hP 3 (by decide)) rfl i_X1 2 (by decide) (List.mem_of_getElem? (i := 3) rfl) rfl dX1_add_21 ?_
  refine lv_aload_n (pc := 24) hx hb dX1_add_24 rfl (lv_at hl 1 rfl) ?_
  refine zr_get (pc := 25) S hK (hP 3 (by decide)) rfl i_X1 0 (by decide) (List.mem_of_getElem? (i := 2) rfl) rfl dX1_add_25 ?_
  refine zr_top (b := g 2) (by rw [su_n (by decide)]; exact rl_nH hR) ?_
  refine lv_iload_n (pc := 28) hx hb dX1_add_28 rfl (lv_at hl 3 rfl) ?_
  refine zr_nwv (pc := 29) (As := [.ref (ad 16), .int (zI (g 2)), .int (zI (f))]) (rest := []) S (ct_X7_put l D cI cT H.size (ad 16) 24 _ (g 2) f (by decide) (by omega) (by omega)) (va_cnB 3 hts gX1_add_X7_put_n39 rfl rfl rfl (zK_nest hK 20 rfl) (hts _ (List.mem_of_getElem? (i := 12) rfl)) (by decide +kernel) ⟨Nat.le_of_ble_eq_true rfl, Nat.le_of_ble_eq_true rfl⟩) (hts _ (List.mem_of_getElem? (i := 11) rfl)) zs0 hK (hP 16 (by decide)) hS (fun q h => h.elim (fun e => by rw [e]; exact (hAin 16 (by decide))) (fun z => hAn q (Nat.le_trans hS.1 z))) rfl hl.1 rfl (Nat.le_of_ble_eq_true rfl) dX1_add_29 ⟨Nat.le_of_ble_eq_true rfl, Nat.le_of_ble_eq_true rfl⟩ (fun H locs hG hz hk hS => ?_)
  have hP := zW.put hP hJ 16 (by decide) hG (fun q h1 h2 => hk q h1 (fun z => z.elim h2 (fun y => absurd h1 (Nat.not_lt.mpr y)))) (sC_a 16 (by decide) _ _)
  refine lv_aload_n (pc := 32) hx hb dX1_add_32 rfl (lv_at hl 1 rfl) ?_
  refine zr_get (pc := 33) S hK (hP 3 (by decide)) rfl i_X1 3 (by decide) (List.mem_of_getElem? (i := 4) rfl) rfl dX1_add_33 ?_
  refine lv_aload_n (pc := 36) hx hb dX1_add_36 rfl (lv_at hl 1 rfl) ?_
  refine zr_get (pc := 37) S hK (hP 3 (by decide)) rfl i_X1 0 (by decide) (List.mem_of_getElem? (i := 2) rfl) rfl dX1_add_37 ?_
  refine zr_top (b := g 2) (by rw [su_n (by decide), su_n (by decide)]; exact rl_nH hR) ?_
  refine lv_iload_n (pc := 40) hx hb dX1_add_40 rfl (lv_at hl 4 rfl) ?_
  refine zr_nwv (pc := 41) (As := [.ref (ad 17), .int (zI (g 2)), .int (zI (n))]) (rest := []) S (ct_X7_put l D cI cT H.size (ad 17) 24 _ (g 2) n (by decide) (by omega) (by omega)) (va_cnB 3 hts gX1_add_X7_put_n39 rfl rfl rfl (zK_nest hK 20 rfl) (hts _ (List.mem_of_getElem? (i := 12) rfl)) (by decide +kernel) ⟨Nat.le_of_ble_eq_true rfl, Nat.le_of_ble_eq_true rfl⟩) (hts _ (List.mem_of_getElem? (i := 11) rfl)) zs0 hK (hP 17 (by decide)) hS (fun q h => h.elim (fun e => by rw [e]; exact (hAin 17 (by decide))) (fun z => hAn q (Nat.le_trans hS.1 z))) rfl hl.1 rfl (Nat.le_of_ble_eq_true rfl) dX1_add_41 ⟨Nat.le_of_ble_eq_true rfl, Nat.le_of_ble_eq_true rfl⟩ (fun H locs hG hz hk hS => ?_)
  have hP := zW.put hP hJ 17 (by decide) hG (fun q h1 h2 => hk q h1 (fun z => z.elim h2 (fun y => absurd h1 (Nat.not_lt.mpr y)))) (sC_a 17 (by decide) _ _)
  refine lv_aload_n (pc := 44) hx hb dX1_add_44 rfl (lv_at hl 1 rfl) ?_
  refine zr_get (pc := 45) S hK (hP 3 (by decide)) rfl i_X1 4 (by decide) (List.mem_of_getElem? (i := 5) rfl) rfl dX1_add_45 ?_
  refine lv_aload_n (pc := 48) hx hb dX1_add_48 rfl (lv_at hl 1 rfl) ?_
  refine zr_get (pc := 49) S hK (hP 3 (by decide)) rfl i_X1 0 (by decide) (List.mem_of_getElem? (i := 2) rfl) rfl dX1_add_49 ?_
  refine zr_top (b := g 2) (by rw [su_n (by decide), su_n (by decide), su_n (by decide)]; exact rl_nH hR) ?_
  refine lv_iload (pc := 52) hx hb dX1_add_52 (lv_at hl 5 rfl) ?_
  refine zr_nwv (pc := 54) (As := [.ref (ad 18), .int (zI (g 2)), .int (zI (r))]) (rest := []) S (ct_X7_put l D cI cT H.size (ad 18) 24 _ (g 2) r (by decide) (by omega) (by omega)) (va_cnB 3 hts gX1_add_X7_put_n39 rfl rfl rfl (zK_nest hK 20 rfl) (hts _ (List.mem_of_getElem? (i := 12) rfl)) (by decide +kernel) ⟨Nat.le_of_ble_eq_true rfl, Nat.le_of_ble_eq_true rfl⟩) (hts _ (List.mem_of_getElem? (i := 11) rfl)) zs0 hK (hP 18 (by decide)) hS (fun q h => h.elim (fun e => by rw [e]; exact (hAin 18 (by decide))) (fun z => hAn q (Nat.le_trans hS.1 z))) rfl hl.1 rfl (Nat.le_of_ble_eq_true rfl) dX1_add_54 ⟨Nat.le_of_ble_eq_true rfl, Nat.le_of_ble_eq_true rfl⟩ (fun H locs hG hz hk hS => ?_)
  have hP := zW.put hP hJ 18 (by decide) hG (fun q h1 h2 => hk q h1 (fun z => z.elim h2 (fun y => absurd h1 (Nat.not_lt.mpr y)))) (sC_a 18 (by decide) _ _)
  refine lv_aload_n (pc := 57) hx hb dX1_add_57 rfl (lv_at hl 1 rfl) ?_
  refine zr_get (pc := 58) S hK (hP 3 (by decide)) rfl i_X1 5 (by decide) (List.mem_of_getElem? (i := 6) rfl) rfl dX1_add_58 ?_
  refine lv_aload_n (pc := 61) hx hb dX1_add_61 rfl (lv_at hl 1 rfl) ?_
  refine zr_get (pc := 62) S hK (hP 3 (by decide)) rfl i_X1 0 (by decide) (List.mem_of_getElem? (i := 2) rfl) rfl dX1_add_62 ?_
  refine zr_top (b := g 2) (by rw [su_n (by decide), su_n (by decide), su_n (by decide), su_n (by decide)]; exact rl_nH hR) ?_
  refine lv_iload (pc := 65) hx hb dX1_add_65 (lv_at hl 0 rfl) ?_
  refine zr_nwv (pc := 67) (As := [.ref (ad 19), .int (zI (g 2)), .int (zI (feeF n r))]) (rest := []) S (ct_X7_put l D cI cT H.size (ad 19) 24 _ (g 2) (feeF n r) (by decide) (by omega) (by omega)) (va_cnB 3 hts gX1_add_X7_put_n39 rfl rfl rfl (zK_nest hK 20 rfl) (hts _ (List.mem_of_getElem? (i := 12) rfl)) (by decide +kernel) ⟨Nat.le_of_ble_eq_true rfl, Nat.le_of_ble_eq_true rfl⟩) (hts _ (List.mem_of_getElem? (i := 11) rfl)) zs0 hK (hP 19 (by decide)) hS (fun q h => h.elim (fun e => by rw [e]; exact (hAin 19 (by decide))) (fun z => hAn q (Nat.le_trans hS.1 z))) rfl hl.1 rfl (Nat.le_of_ble_eq_true rfl) dX1_add_67 ⟨Nat.le_of_ble_eq_true rfl, Nat.le_of_ble_eq_true rfl⟩ (fun H locs hG hz hk hS => ?_)
  have hP := zW.put hP hJ 19 (by decide) hG (fun q h1 h2 => hk q h1 (fun z => z.elim h2 (fun y => absurd h1 (Nat.not_lt.mpr y)))) (sC_a 19 (by decide) _ _)
  refine lv_aload_n (pc := 70) hx hb dX1_add_70 rfl (lv_at hl 1 rfl) ?_
  refine lv_dup (pc := 71) hx hb dX1_add_71 rfl ?_
  refine zr_get (pc := 72) S hK (hP 3 (by decide)) rfl i_X1 0 (by decide) (List.mem_of_getElem? (i := 2) rfl) rfl dX1_add_72 ?_
  refine zr_top (b := g 2) (by rw [su_n (by decide), su_n (by decide), su_n (by decide), su_n (by decide), su_n (by decide)]; exact rl_nH hR) ?_
  refine lv_iconst (pc := 75) (v := zI 1) hx hb dX1_add_75 rfl ?_
  refine zr_iadd (pc := 76) (d := (g 2) + 1) hx hb dX1_add_76 rfl ?_
  refine zr_put (pc := 77) S hK (hP 3 (by decide)) rfl i_X1 tyX1 tyX1_ok nmX1 0 (by decide) (List.mem_of_getElem? (i := 2) rfl) rfl rfl rfl (Nat.le_of_ble_eq_true rfl) hS (hAin 3 (by decide)) dX1_add_77 (fun H locs hO hz hk hS => ?_)
  have hP := zW.put hP hJ 3 (by decide) hO hk (sC_3_0 ((g 2) + 1))
  refine lv_iload (pc := 80) hx hb dX1_add_80 (lv_at hl 0 rfl) ?_
  exact W.iret (v := zI (feeF n r)) hx hb hr (fun tz ht hW => ⟨⟨zI (feeF n r), zI (feeF n r), rfl, rfl, by dsimp only; rw [ht]; exact ⟨rfl, _, rel_mkH hR hI, hP⟩⟩, hS.F ht⟩) hS.2.2 dX1_add_82
set_option maxHeartbeats 4000000 in
set_option maxRecDepth 100000 in
theorem ct_X1_end (l : Launch) (D : va_G) (cI cT : ClassId) (sz : Nat) (ad : Nat → Nat) (σ : Nat → Int → Int) (g : Int → Int) (hR : Rel σ g) (hI : Inv g) (hJ : zJ ad 20) (h : Int) (t : Int) (h0 : 0 ≤ h) (h1 : h < g 2) (t0 : gH g h 1 ≤ t) (t1 : t + 1 < gH g h 1 + gH g h 2) (t2 : t ≤ 300) : zMi l yX1_end wsX1_end ({ frames := 1, cells := 0, slots := 0, locals := 22 }) D cI cT [.ref (ad 3), .int (zI (h)), .int (zI (t))] sz (fun _ H => zW D ad 20 (sC cI ad σ) H) (fun rr H => rr = zI ((gH g h 3 - feeF (t - gH g h 1 + 1) (gH g h 4)).tdiv 2) ∧ ∃ σ' : Nat → Int → Int, Rel σ' (zu (zu g (452 + 5 * h + 2) (t - gH g h 1 + 1)) (452 + 5 * h + 3) (gH g h 3 - (gH g h 3 - feeF (t - gH g h 1 + 1) (gH g h 4)).tdiv 2)) ∧ zW D ad 20 (sC cI ad σ') H) (zR ad 20 sz) := by
  refine Met.ofW (cc := cX1_end) (maxL := 5) (ret := (some .int)) (by decide) rfl ?_
  intro p_ e_ s m_ args below meth c_ s₁ B hml hv
  obtain ⟨rfl, hsz, hK, hF⟩ := hv
  have hx := B.exec
  have hb := B.bytes
  have hr := B.returns
  have hts := atoms_spec (ws := wsX1_end) B.pre
  have hown : s.vm.findClass RX1 = some m_.cls := findClass_of_methodNamed B.named
  have hlocks := B.notSynchronized
  have S : CallFix p_ m_ c_ cX1_end 5 s _ wsX1_end RX1 := ⟨hx, hb, hml, hown, hts⟩
  have i_X1 : ∀ w ∈ u_ws RX1 TX1 6, w ∈ wsX1_end := fun _ h => List.mem_cons_of_mem _ (List.mem_append_right _ h)
  subst hsz
  generalize hAe : (zR ad 20 s.heap.size) = A
  have hAn : ∀ q : Nat, s.heap.size ≤ q → A q := fun q h => by rw [← hAe]; exact Or.inr h
  obtain ⟨H, hHe⟩ : ∃ H : Heap, H = s.heap := ⟨_, rfl⟩
  rw [← hHe] at hF ⊢
  have hS : va_S A s.heap H [] := by rw [hHe]; exact va_S.rf
  have hP := hF
  have hAin : ∀ k : Nat, k < 20 → A (ad k) := fun k hk => by rw [← hAe]; exact Or.inl ⟨k, hk, rfl⟩
  have hnH := iv_nH hI
  have hh := iv_hi hI h0 h1
  have hfb := feeF_bd (n := t - gH g h 1 + 1) (r := gH g h 4) (by omega) (by omega) (by omega) (by omega)
  have hl := lv_entry ([.ref (ad 3), .int (zI (h)), .int (zI (t))]) (n := 5) (Nat.le_of_ble_eq_true rfl)
  rw [lg_entry_eq]
  generalize (lg_sl ([.ref (ad 3), .int (zI (h)), .int (zI (t))]) ++ List.replicate (5 - (lg_sl ([.ref (ad 3), .int (zI (h)), .int (zI (t))])).length) Slot.unset).toArray = ls at hl ⊢
  have hl : lv_has ls 5 [(0, .ref (ad 3)), (1, .int (zI (h))), (2, .int (zI (t)))] := hl
  refine lv_iload_n (pc := 0) hx hb dX1_end_0 rfl (lv_at hl 2 rfl) ?_
  refine lv_aload_n (pc := 1) hx hb dX1_end_1 rfl (lv_at hl 0 rfl) ?_
  refine zr_get (pc := 2) S hK (hP 3 (by decide)) rfl i_X1 2 (by decide) (List.mem_of_getElem? (i := 1) rfl) rfl dX1_end_2 ?_
  refine lv_iload_n (pc := 5) hx hb dX1_end_5 rfl (lv_at hl 1 rfl) ?_
  refine zr_ni (pc := 6) (As := [.ref (ad 16), .int (zI (h))]) (rest := [.int (zI (t))]) S (ct_X7_at l D cI cT (ad 16) 24 _ h (gH g h 1) (by decide) (by omega) (by omega) (rl_h1 hR h0 h1) (by omega)) (va_cnB 2 hts gX1_end_X7_at_n43 rfl rfl rfl (zK_nest hK 12 rfl) (hts _ (List.mem_of_getElem? (i := 6) rfl)) (by decide +kernel) ⟨Nat.le_of_ble_eq_true rfl, Nat.le_of_ble_eq_true rfl⟩) (hts _ (List.mem_of_getElem? (i := 5) rfl)) zs_ar hK (zAr_of (zK_int hK) (hP 16 (by decide))) rfl hl.1 rfl (Nat.le_of_ble_eq_true rfl) dX1_end_6 ⟨Nat.le_of_ble_eq_true rfl, Nat.le_of_ble_eq_true rfl⟩ (fun r_6 hr_6 => ?_)
  subst hr_6
  refine zr_isub (pc := 9) (d := t - (gH g h 1)) hx hb dX1_end_9 rfl ?_
  refine lv_iconst (pc := 10) (v := zI 1) hx hb dX1_end_10 rfl ?_
  refine zr_iadd (pc := 11) (d := (t - (gH g h 1)) + 1) hx hb dX1_end_11 rfl ?_
  refine lv_istore_n (pc := 12) (lv' := [(3, .int (zI ((t - (gH g h 1)) + 1))), (0, .ref (ad 3)), (1, .int (zI (h))), (2, .int (zI (t)))]) hx hb dX1_end_12 rfl hl (by decide) rfl (fun ls hl => ?_)
  refine lv_aload_n (pc := 13) hx hb dX1_end_13 rfl (lv_at hl 1 rfl) ?_
  refine zr_get (pc := 14) S hK (hP 3 (by decide)) rfl i_X1 5 (by decide) (List.mem_of_getElem? (i := 2) rfl) rfl dX1_end_14 ?_
  refine lv_iload_n (pc := 17) hx hb dX1_end_17 rfl (lv_at hl 2 rfl) ?_
  refine zr_ni (pc := 18) (As := [.ref (ad 19), .int (zI (h))]) (rest := []) S (ct_X7_at l D cI cT (ad 19) 24 _ h (gH g h 3) (by decide) (by omega) (by omega) (rl_h3 hR h0 h1) (by omega)) (va_cnB 2 hts gX1_end_X7_at_n43 rfl rfl rfl (zK_nest hK 12 rfl) (hts _ (List.mem_of_getElem? (i := 6) rfl)) (by decide +kernel) ⟨Nat.le_of_ble_eq_true rfl, Nat.le_of_ble_eq_true rfl⟩) (hts _ (List.mem_of_getElem? (i := 5) rfl)) zs_ar hK (zAr_of (zK_int hK) (hP 19 (by decide))) rfl hl.1 rfl (Nat.le_of_ble_eq_true rfl) dX1_end_18 ⟨Nat.le_of_ble_eq_true rfl, Nat.le_of_ble_eq_true rfl⟩ (fun r_18 hr_18 => ?_)
  subst hr_18
  refine lv_iload_n (pc := 21) hx hb dX1_end_21 rfl (lv_at hl 0 rfl) ?_
  refine lv_aload_n (pc := 22) hx hb dX1_end_22 rfl (lv_at hl 1 rfl) ?_
  refine zr_get (pc := 23) S hK (hP 3 (by decide)) rfl i_X1 4 (by decide) (List.mem_of_getElem? (i := 3) rfl) rfl dX1_end_23 ?_
  refine lv_iload_n (pc := 26) hx hb dX1_end_26 rfl (lv_at hl 2 rfl) ?_
  refine zr_ni (pc := 27) (As := [.ref (ad 18), .int (zI (h))]) (rest := [.int (zI ((t - (gH g h 1)) + 1)), .int (zI (gH g h 3))]) S (ct_X7_at l D cI cT (ad 18) 24 _ h (gH g h 4) (by decide) (by omega) (by omega) (rl_h4 hR h0 h1) (by omega)) (va_cnB 2 hts gX1_end_X7_at_n43 rfl rfl rfl (zK_nest hK 12 rfl) (hts _ (List.mem_of_getElem? (i := 6) rfl)) (by decide +kernel) ⟨Nat.le_of_ble_eq_true rfl, Nat.le_of_ble_eq_true rfl⟩) (hts _ (List.mem_of_getElem? (i := 5) rfl)) zs_ar hK (zAr_of (zK_int hK) (hP 18 (by decide))) rfl hl.1 rfl (Nat.le_of_ble_eq_true rfl) dX1_end_27 ⟨Nat.le_of_ble_eq_true rfl, Nat.le_of_ble_eq_true rfl⟩ (fun r_27 hr_27 => ?_)
  subst hr_27
  refine zr_si (pc := 30) (As := [.int (zI ((t - (gH g h 1)) + 1)), .int (zI (gH g h 4))]) (rest := [.int (zI (gH g h 3))]) S (ct_X1_feeFor l D cI cT ((t - (gH g h 1)) + 1) (gH g h 4) (by omega) (by omega) (by omega) (by omega)) (va_cwS 2 hts gX1_end_X1_feeFor rfl rfl rfl (by decide +kernel) ⟨Nat.le_of_ble_eq_true rfl, Nat.le_of_ble_eq_true rfl⟩) zs0 hK trivial rfl hl.1 rfl (Nat.le_of_ble_eq_true rfl) dX1_end_30 ⟨Nat.le_of_ble_eq_true rfl, Nat.le_of_ble_eq_true rfl⟩ (fun r_30 hr_30 => ?_)
  subst hr_30
  refine zr_isub (pc := 33) (d := (gH g h 3) - (feeF ((t - (gH g h 1)) + 1) (gH g h 4))) hx hb dX1_end_33 rfl ?_
  refine lv_iconst (pc := 34) (v := zI 2) hx hb dX1_end_34 rfl ?_
  refine zr_idiv (pc := 35) (d := (gH g h 3 - feeF (t - gH g h 1 + 1) (gH g h 4)).tdiv 2) hx hb dX1_end_35 (zi_tdiv (by omega) (by decide)) ?_
  refine lv_istore (pc := 36) (lv' := [(4, .int (zI ((gH g h 3 - feeF (t - gH g h 1 + 1) (gH g h 4)).tdiv 2))), (3, .int (zI ((t - (gH g h 1)) + 1))), (0, .ref (ad 3)), (1, .int (zI (h))), (2, .int (zI (t)))]) hx hb dX1_end_36 hl (by decide) rfl (fun ls hl => ?_)
  refine lv_aload_n (pc := 38) hx hb dX1_end_38 rfl (lv_at hl 2 rfl) ?_
  refine zr_get (pc := 39) S hK (hP 3 (by decide)) rfl i_X1 3 (by decide) (List.mem_of_getElem? (i := 4) rfl) rfl dX1_end_39 ?_
  refine lv_iload_n (pc := 42) hx hb dX1_end_42 rfl (lv_at hl 3 rfl) ?_
  refine lv_iload_n (pc := 43) hx hb dX1_end_43 rfl (lv_at hl 1 rfl) ?_
  refine zr_nwv (pc := 44) (As := [.ref (ad 17), .int (zI (h)), .int (zI ((t - (gH g h 1)) + 1))]) (rest := []) S (ct_X7_put l D cI cT H.size (ad 17) 24 _ h ((t - (gH g h 1)) + 1) (by decide) (by omega) (by omega)) (va_cnB 3 hts gX1_end_X7_put_n39 rfl rfl rfl (zK_nest hK 20 rfl) (hts _ (List.mem_of_getElem? (i := 6) rfl)) (by decide +kernel) ⟨Nat.le_of_ble_eq_true rfl, Nat.le_of_ble_eq_true rfl⟩) (hts _ (List.mem_of_getElem? (i := 12) rfl)) zs0 hK (hP 17 (by decide)) hS (fun q h => h.elim (fun e => by rw [e]; exact (hAin 17 (by decide))) (fun z => hAn q (Nat.le_trans hS.1 z))) rfl hl.1 rfl (Nat.le_of_ble_eq_true rfl) dX1_end_44 ⟨Nat.le_of_ble_eq_true rfl, Nat.le_of_ble_eq_true rfl⟩ (fun H locs hG hz hk hS => ?_)
  have hP := zW.put hP hJ 17 (by decide) hG (fun q h1 h2 => hk q h1 (fun z => z.elim h2 (fun y => absurd h1 (Nat.not_lt.mpr y)))) (sC_a 17 (by decide) _ _)
  refine lv_aload_n (pc := 47) hx hb dX1_end_47 rfl (lv_at hl 2 rfl) ?_
  refine zr_get (pc := 48) S hK (hP 3 (by decide)) rfl i_X1 5 (by decide) (List.mem_of_getElem? (i := 2) rfl) rfl dX1_end_48 ?_
  refine lv_iload_n (pc := 51) hx hb dX1_end_51 rfl (lv_at hl 3 rfl) ?_
  refine lv_aload_n (pc := 52) hx hb dX1_end_52 rfl (lv_at hl 2 rfl) ?_
  refine zr_get (pc := 53) S hK (hP 3 (by decide)) rfl i_X1 5 (by decide) (List.mem_of_getElem? (i := 2) rfl) rfl dX1_end_53 ?_
  refine lv_iload_n (pc := 56) hx hb dX1_end_56 rfl (lv_at hl 3 rfl) ?_
  refine zr_ni (pc := 57) (As := [.ref (ad 19), .int (zI (h))]) (rest := [.int (zI (h)), .ref (ad 19)]) S (ct_X7_at l D cI cT (ad 19) 24 _ h (gH g h 3) (by decide) (by omega) (by omega) (by rw [su_n (by decide)]; exact rl_h3 hR h0 h1) (by omega)) (va_cnB 2 hts gX1_end_X7_at_n43 rfl rfl rfl (zK_nest hK 12 rfl) (hts _ (List.mem_of_getElem? (i := 6) rfl)) (by decide +kernel) ⟨Nat.le_of_ble_eq_true rfl, Nat.le_of_ble_eq_true rfl⟩) (hts _ (List.mem_of_getElem? (i := 5) rfl)) zs_ar hK (zAr_of (zK_int hK) (hP 19 (by decide))) rfl hl.1 rfl (Nat.le_of_ble_eq_true rfl) dX1_end_57 ⟨Nat.le_of_ble_eq_true rfl, Nat.le_of_ble_eq_true rfl⟩ (fun r_57 hr_57 => ?_)
  subst hr_57
  refine lv_iload (pc := 60) hx hb dX1_end_60 (lv_at hl 0 rfl) ?_
  refine zr_isub (pc := 62) (d := (gH g h 3) - ((gH g h 3 - feeF (t - gH g h 1 + 1) (gH g h 4)).tdiv 2)) hx hb dX1_end_62 rfl ?_
  refine zr_nwv (pc := 63) (As := [.ref (ad 19), .int (zI (h)), .int (zI ((gH g h 3) - ((gH g h 3 - feeF (t - gH g h 1 + 1) (gH g h 4)).tdiv 2)))]) (rest := []) S (ct_X7_put l D cI cT H.size (ad 19) 24 _ h ((gH g h 3) - ((gH g h 3 - feeF (t - gH g h 1 + 1) (gH g h 4)).tdiv 2)) (by decide) (by omega) (by omega)) (va_cnB 3 hts gX1_end_X7_put_n39 rfl rfl rfl (zK_nest hK 20 rfl) (hts _ (List.mem_of_getElem? (i := 6) rfl)) (by decide +kernel) ⟨Nat.le_of_ble_eq_true rfl, Nat.le_of_ble_eq_true rfl⟩) (hts _ (List.mem_of_getElem? (i := 12) rfl)) zs0 hK (hP 19 (by decide)) hS (fun q h => h.elim (fun e => by rw [e]; exact (hAin 19 (by decide))) (fun z => hAn q (Nat.le_trans hS.1 z))) rfl hl.1 rfl (Nat.le_of_ble_eq_true rfl) dX1_end_63 ⟨Nat.le_of_ble_eq_true rfl, Nat.le_of_ble_eq_true rfl⟩ (fun H locs hG hz hk hS => ?_)
  have hP := zW.put hP hJ 19 (by decide) hG (fun q h1 h2 => hk q h1 (fun z => z.elim h2 (fun y => absurd h1 (Nat.not_lt.mpr y)))) (sC_a 19 (by decide) _ _)
  refine lv_iload (pc := 66) hx hb dX1_end_66 (lv_at hl 0 rfl) ?_
  exact W.iret (v := zI ((gH g h 3 - feeF (t - gH g h 1 + 1) (gH g h 4)).tdiv 2)) hx hb hr (fun tz ht hW => ⟨⟨zI ((gH g h 3 - feeF (t - gH g h 1 + 1) (gH g h 4)).tdiv 2), zI ((gH g h 3 - feeF (t - gH g h 1 + 1) (gH g h 4)).tdiv 2), rfl, rfl, by dsimp only; rw [ht]; exact ⟨rfl, _, rel_h3 h0 (by rw [zu_n (by omega)]; exact h1) (rel_h2 h0 h1 hR hI) (inv_h2 h0 h1 (by omega) hI), hP⟩⟩, hS.F ht⟩) hS.2.2 dX1_end_68
set_option maxHeartbeats 4000000 in
set_option maxRecDepth 100000 in
theorem ct_X4_soilAll (l : Launch) (D : va_G) (cI cT : ClassId) (sz : Nat) (ad : Nat → Nat) (σ : Nat → Int → Int) (g : Int → Int) (hR : Rel σ g) (hI : Inv g) (hJ : zJ ad 20)   : zMv l yX4_soilAll wsX4_soilAll ({ frames := 4, cells := 0, slots := 0, locals := 90 }) D cI cT [.ref (ad 0)] sz (fun _ H => zW D ad 20 (sC cI ad σ) H) (fun H => ∃ σ' : Nat → Int → Int, Rel σ' (soG g (g 0).toNat) ∧ zW D ad 20 (sC cI ad σ') H) (zR ad 20 sz) := by
  refine Met.ofW (cc := cX4_soilAll) (maxL := 2) (ret := none) (by decide) rfl ?_
  intro p_ e_ s m_ args below meth c_ s₁ B hml hv
  obtain ⟨rfl, hsz, hK, hF⟩ := hv
  have hx := B.exec
  have hb := B.bytes
  have hr := B.returns
  have hts := atoms_spec (ws := wsX4_soilAll) B.pre
  have hown : s.vm.findClass RX4 = some m_.cls := findClass_of_methodNamed B.named
  have hlocks := B.notSynchronized
  have S : CallFix p_ m_ c_ cX4_soilAll 2 s _ wsX4_soilAll RX4 := ⟨hx, hb, hml, hown, hts⟩
  have i_X4 : ∀ w ∈ u_ws RX4 TX4 9, w ∈ wsX4_soilAll := fun _ h => List.mem_cons_of_mem _ (List.mem_append_left _ (List.mem_append_left _ (List.mem_append_right _ h)))
  have i_X6 : ∀ w ∈ u_ws RX6 TX6 9, w ∈ wsX4_soilAll := fun _ h => List.mem_cons_of_mem _ (List.mem_append_left _ (List.mem_append_right _ h))
  subst hsz
  generalize hAe : (zR ad 20 s.heap.size) = A
  have hAn : ∀ q : Nat, s.heap.size ≤ q → A q := fun q h => by rw [← hAe]; exact Or.inr h
  obtain ⟨H, hHe⟩ : ∃ H : Heap, H = s.heap := ⟨_, rfl⟩
  rw [← hHe] at hF ⊢
  have hS : va_S A s.heap H [] := by rw [hHe]; exact va_S.rf
  have hP := hF
  have hAin : ∀ k : Nat, k < 20 → A (ad k) := fun k hk => by rw [← hAe]; exact Or.inl ⟨k, hk, rfl⟩
  have hnC := iv_nC hI
  have hl := lv_entry ([.ref (ad 0)]) (n := 2) (Nat.le_of_ble_eq_true rfl)
  rw [lg_entry_eq]
  generalize (lg_sl ([.ref (ad 0)]) ++ List.replicate (2 - (lg_sl ([.ref (ad 0)])).length) Slot.unset).toArray = ls at hl ⊢
  have hl : lv_has ls 2 [(0, .ref (ad 0))] := hl
  refine lv_iconst (pc := 0) (v := zI 0) hx hb dX4_soilAll_0 rfl ?_
  refine lv_istore_n (pc := 1) (lv' := [(1, .int (zI (0))), (0, .ref (ad 0))]) hx hb dX4_soilAll_1 rfl hl (by decide) rfl (fun ls hl => ?_)
  refine zr_hloop1 (fun (i : Nat) (H : Heap) => ((i : Int) ≤ g 0) ∧ (∃ σ' : Nat → Int → Int, Rel σ' (soG g i) ∧ zW D ad 20 (sC cI ad σ') H)) (fun (i : Nat) => (g 0 : Int).toNat - i) (fun (i : Nat) => [(0, .ref (ad 0)), (1, .int (zI ((i : Int))))]) ?_ (0) (⟨by omega, ⟨_, hR, hP⟩⟩) hS (lv_sub hl [1, 0] rfl)
  intro i H locs hinv hS ih_2 ls hl
  obtain ⟨h_i, hE⟩ := hinv
  obtain ⟨σ2, hR2, hP⟩ := hE
  obtain ⟨hI2, hg0⟩ := inv_so hI i h_i
  have hg6 : ∀ k : Int, (i : Int) ≤ k → gC (soG g i) k 6 = gC g k 6 := fun k hk => soG_o g i (fun j j0 j1 => by omega)
  have hsc : ∀ c : Int, scn (soG g i) c = scn g c := fun c => scn_same (fun j hj => soG_o g i (fun k k0 k1 => by omega)) c
  refine lv_iload_n (pc := 2) hx hb dX4_soilAll_2 rfl (lv_at hl 1 rfl) ?_
  refine lv_aload_n (pc := 3) hx hb dX4_soilAll_3 rfl (lv_at hl 0 rfl) ?_
  refine zr_get (pc := 4) S hK (hP 0 (by decide)) rfl i_X4 0 (by decide) (List.mem_of_getElem? (i := 1) rfl) rfl dX4_soilAll_4 ?_
  refine zr_get (pc := 7) S hK (hP 1 (by decide)) rfl i_X6 0 (by decide) (List.mem_of_getElem? (i := 2) rfl) rfl dX4_soilAll_7 ?_
  refine zr_top (b := (soG g i) 0) (rl_nC hR2) ?_
  refine zr_icmp_ge (pc := 10) (tgt := 35) hx hb dX4_soilAll_10 (by decide) (by omega) (by omega) (fun c_10 => ?_) (fun c_10 => ?_)
  · rw [hg0] at c_10
    exact W.vret hx hb hr (fun tz ht hW => ⟨⟨(), rfl, trivial, by dsimp only; rw [ht]; exact ⟨_, by rw [show (g 0).toNat = i by omega]; exact hR2, hP⟩⟩, hS.F ht⟩) hS.2.2 dX4_soilAll_35
  · rw [hg0] at c_10
    have hsb := scn_bd (soG g i) (i : Int)
    refine lv_aload_n (pc := 13) hx hb dX4_soilAll_13 rfl (lv_at hl 0 rfl) ?_
    refine zr_get (pc := 14) S hK (hP 0 (by decide)) rfl i_X4 0 (by decide) (List.mem_of_getElem? (i := 1) rfl) rfl dX4_soilAll_14 ?_
    refine lv_iload_n (pc := 17) hx hb dX4_soilAll_17 rfl (lv_at hl 1 rfl) ?_
    refine lv_aload_n (pc := 18) hx hb dX4_soilAll_18 rfl (lv_at hl 0 rfl) ?_
    refine zr_get (pc := 19) S hK (hP 0 (by decide)) rfl i_X4 1 (by decide) (List.mem_of_getElem? (i := 3) rfl) rfl dX4_soilAll_19 ?_
    refine lv_iload_n (pc := 22) hx hb dX4_soilAll_22 rfl (lv_at hl 1 rfl) ?_
    refine zr_vi (pc := 23) (As := [.int (zI ((i : Int)))]) (rest := [.int (zI ((i : Int))), .ref (ad 1)]) S (ct_X0_scenesOf l D cI cT ad σ2 (soG g i) hR2 hI2 ((i : Int)) (by omega) (by omega)) (cwV 1 hts gX4_soilAll_X0_scenesOf rfl rfl rfl (by decide +kernel) ⟨Nat.le_of_ble_eq_true rfl, Nat.le_of_ble_eq_true rfl⟩) zs0 hK hP (zr_recv hK (hP 2 (by decide)) rfl) rfl hl.1 rfl (Nat.le_of_ble_eq_true rfl) dX4_soilAll_23 ⟨Nat.le_of_ble_eq_true rfl, Nat.le_of_ble_eq_true rfl⟩ (fun r_23 hr_23 => ?_)
    subst hr_23
    have hs_23 := scn_bd (soG g i) (((i : Int)))
    refine zr_vwv (pc := 26) (As := [.int (zI ((i : Int))), .int (zI (scn (soG g i) ((i : Int))))]) (rest := []) S (ct_X6_soil l D cI cT H.size ad σ2 (soG g i) hR2 hI2 hJ ((i : Int)) (scn (soG g i) ((i : Int))) (by omega) (by omega) (by omega) (by omega)) (cwV 2 hts gX4_soilAll_X6_soil rfl rfl rfl (by decide +kernel) ⟨Nat.le_of_ble_eq_true rfl, Nat.le_of_ble_eq_true rfl⟩) zs0 hK hP (zr_recv hK (hP 1 (by decide)) rfl) hS (fun q h => h.elim (fun ⟨k, k0, e⟩ => by rw [e]; exact hAin k k0) (fun z => hAn q (Nat.le_trans hS.1 z))) rfl hl.1 rfl (Nat.le_of_ble_eq_true rfl) dX4_soilAll_26 ⟨Nat.le_of_ble_eq_true rfl, Nat.le_of_ble_eq_true rfl⟩ (fun H locs hG hz hk hS => ?_)
    obtain ⟨σ1, hR1, hP⟩ := hG
    refine zr_iinc (pc := 29) (d := ((i : Int)) + 1) (lv' := [(1, .int (zI (((i : Int)) + 1))), (0, .ref (ad 0))]) hx hb dX4_soilAll_29 hl (k := 1) rfl rfl (by decide) rfl (fun ls hl => ?_)
    refine lv_goto (pc := 32) (tgt := 2) hx hb dX4_soilAll_32 (by decide) ?_
    exact ih_2 (i + 1) H locs (⟨by omega, by rw [soG_s, ← hg6 _ (by omega), ← hsc]; exact ⟨_, hR1, hP⟩⟩) hS (by omega) ls (lv_sub hl [1, 0] rfl)
