set_option maxHeartbeats 4000000 in
set_option maxRecDepth 100000 in
theorem ct_X8_lay (l : Launch) (D : va_G) (cI cT : ClassId) (sz : Nat) (am : Nat → Nat) (μ : Nat → Int → Int) (g : Int → Int) (hg : μ 1 = g) (hJ : zJ am 5) (c : Int) (p : Int) (v : Int) (c0 : 0 ≤ c) (c1 : c < 16) (p0 : 0 ≤ p) (p1 : p < 20) : zMv l yX8_lay wsX8_lay ({ frames := 0, cells := 0, slots := 0, locals := 0 }) D cI cT [.ref (am 0), .int (zI (c)), .int (zI (p)), .int (zI (v))] sz (fun _ H => zW D am 5 (mC cI am μ) H) (fun H => zW D am 5 (mC cI am (su μ 1 (12 + 20 * c + p) v)) H) (zR am 5 sz) := by
  refine Met.ofW (cc := cX8_lay) (maxL := 4) (ret := none) (by decide) rfl ?_
  intro p_ e_ s m_ args below meth c_ s₁ B hml hv
  obtain ⟨rfl, hsz, hK, hF⟩ := hv
  have hx := B.exec
  have hb := B.bytes
  have hr := B.returns
  have hts := atoms_spec (ws := wsX8_lay) B.pre
  have hown : s.vm.findClass RX8 = some m_.cls := findClass_of_methodNamed B.named
  have hlocks := B.notSynchronized
  have S : CallFix p_ m_ c_ cX8_lay 4 s _ wsX8_lay RX8 := ⟨hx, hb, hml, hown, hts⟩
  have i_X8 : ∀ w ∈ u_ws RX8 TX8 12, w ∈ wsX8_lay := fun _ h => List.mem_cons_of_mem _ (List.mem_append_right _ h)
  subst hsz
  generalize hAe : (zR am 5 s.heap.size) = A
  have hAn : ∀ q : Nat, s.heap.size ≤ q → A q := fun q h => by rw [← hAe]; exact Or.inr h
  obtain ⟨H, hHe⟩ : ∃ H : Heap, H = s.heap := ⟨_, rfl⟩
  rw [← hHe] at hF ⊢
  have hS : va_S A s.heap H [] := by rw [hHe]; exact va_S.rf
  have hP := hF
  have hAin : ∀ k : Nat, k < 5 → A (am k) := fun k hk => by rw [← hAe]; exact Or.inl ⟨k, hk, rfl⟩
  have hl := lv_entry ([.ref (am 0), .int (zI (c)), .int (zI (p)), .int (zI (v))]) (n := 4) (Nat.le_of_ble_eq_true rfl)
  rw [lg_entry_eq]
  generalize (lg_sl ([.ref (am 0), .int (zI (c)), .int (zI (p)), .int (zI (v))]) ++ List.replicate (4 - (lg_sl ([.ref (am 0), .int (zI (c)), .int (zI (p)), .int (zI (v))])).length) Slot.unset).toArray = ls at hl ⊢
  have hl : lv_has ls 4 [(0, .ref (am 0)), (1, .int (zI (c))), (2, .int (zI (p))), (3, .int (zI (v)))] := hl
  refine lv_aload_n (pc := 0) hx hb dX8_lay_0 rfl (lv_at hl 0 rfl) ?_
  refine zr_get (pc := 1) S hK (hP 0 (by decide)) rfl i_X8 1 (by decide) (List.mem_of_getElem? (i := 1) rfl) rfl dX8_lay_1 ?_
  refine lv_bipush (pc := 4) (v := zI 12) hx hb dX8_lay_4 zc_bipush_12 ?_
  refine lv_bipush (pc := 6) (v := zI 20) hx hb dX8_lay_6 zc_bipush_20 ?_
  refine lv_iload_n (pc := 8) hx hb dX8_lay_8 rfl (lv_at hl 1 rfl) ?_
  refine zr_imul (pc := 9) (d := 20 * c) hx hb dX8_lay_9 rfl ?_
  refine zr_iadd (pc := 10) (d := 12 + (20 * c)) hx hb dX8_lay_10 rfl ?_
  refine lv_iload_n (pc := 11) hx hb dX8_lay_11 rfl (lv_at hl 2 rfl) ?_
  refine zr_iadd (pc := 12) (d := (12 + (20 * c)) + p) hx hb dX8_lay_12 rfl ?_
  refine lv_iload_n (pc := 13) hx hb dX8_lay_13 rfl (lv_at hl 3 rfl) ?_
  refine zr_ast (pc := 14) (k := 572) hx hb hK (hP 1 (by decide)) (by omega) (by omega) (by decide) hS (hAin 1 (by decide)) dX8_lay_14 (fun H locs hO hz hk hS => ?_)
  have hP := zW.put hP hJ 1 (by decide) hO hk (mC_a 1 (by decide) _ _)
  exact W.vret hx hb hr (fun tz ht hW => ⟨⟨(), rfl, trivial, by dsimp only; rw [ht]; exact hP⟩, hS.F ht⟩) hS.2.2 dX8_lay_15
set_option maxHeartbeats 4000000 in
set_option maxRecDepth 100000 in
theorem ct_X8_makeCostume (l : Launch) (D : va_G) (cI cT : ClassId) (sz : Nat) (am : Nat → Nat) (μ : Nat → Int → Int) (g : Int → Int) (hg : μ 1 = g) (hJ : zJ am 5) (ch : Int) (wa : Int) (le : Int) (al : Int) (co : Int) (sh : Int) (h0 : 0 ≤ g 0) (h1 : g 0 < 16) : zMi l yX8_makeCostume wsX8_makeCostume ({ frames := 1, cells := 0, slots := 0, locals := 23 }) D cI cT [.ref (am 0), .int (zI (ch)), .int (zI (wa)), .int (zI (le)), .int (zI (al)), .int (zI (co)), .int (zI (sh))] sz (fun _ H => zW D am 5 (mC cI am μ) H) (fun rr H => rr = zI (g 0) ∧ zW D am 5 (mC cI am (va_up μ 1 (mkC g ch wa le al co sh))) H) (zR am 5 sz) := by
  refine Met.ofW (cc := cX8_makeCostume) (maxL := 9) (ret := (some .int)) (by decide) rfl ?_
  intro p_ e_ s m_ args below meth c_ s₁ B hml hv
  obtain ⟨rfl, hsz, hK, hF⟩ := hv
  have hx := B.exec
  have hb := B.bytes
  have hr := B.returns
  have hts := atoms_spec (ws := wsX8_makeCostume) B.pre
  have hown : s.vm.findClass RX8 = some m_.cls := findClass_of_methodNamed B.named
  have hlocks := B.notSynchronized
  have S : CallFix p_ m_ c_ cX8_makeCostume 9 s _ wsX8_makeCostume RX8 := ⟨hx, hb, hml, hown, hts⟩
  have i_X8 : ∀ w ∈ u_ws RX8 TX8 12, w ∈ wsX8_makeCostume := fun _ h => List.mem_cons_of_mem _ (List.mem_append_right _ h)
  subst hsz
  generalize hAe : (zR am 5 s.heap.size) = A
  have hAn : ∀ q : Nat, s.heap.size ≤ q → A q := fun q h => by rw [← hAe]; exact Or.inr h
  obtain ⟨H, hHe⟩ : ∃ H : Heap, H = s.heap := ⟨_, rfl⟩
  rw [← hHe] at hF ⊢
  have hS : va_S A s.heap H [] := by rw [hHe]; exact va_S.rf
  have hP := hF
  have hAin : ∀ k : Nat, k < 5 → A (am k) := fun k hk => by rw [← hAe]; exact Or.inl ⟨k, hk, rfl⟩
  have e0 : μ 1 0 = g 0 := congrFun hg 0
  have hl := lv_entry ([.ref (am 0), .int (zI (ch)), .int (zI (wa)), .int (zI (le)), .int (zI (al)), .int (zI (co)), .int (zI (sh))]) (n := 9) (Nat.le_of_ble_eq_true rfl)
  rw [lg_entry_eq]
  generalize (lg_sl ([.ref (am 0), .int (zI (ch)), .int (zI (wa)), .int (zI (le)), .int (zI (al)), .int (zI (co)), .int (zI (sh))]) ++ List.replicate (9 - (lg_sl ([.ref (am 0), .int (zI (ch)), .int (zI (wa)), .int (zI (le)), .int (zI (al)), .int (zI (co)), .int (zI (sh))])).length) Slot.unset).toArray = ls at hl ⊢
  have hl : lv_has ls 9 [(0, .ref (am 0)), (1, .int (zI (ch))), (2, .int (zI (wa))), (3, .int (zI (le))), (4, .int (zI (al))), (5, .int (zI (co))), (6, .int (zI (sh)))] := hl
  refine lv_aload_n (pc := 0) hx hb dX8_makeCostume_0 rfl (lv_at hl 0 rfl) ?_
  refine zr_get (pc := 1) S hK (hP 0 (by decide)) rfl i_X8 1 (by decide) (List.mem_of_getElem? (i := 1) rfl) rfl dX8_makeCostume_1 ?_
  refine lv_iconst (pc := 4) (v := zI 0) hx hb dX8_makeCostume_4 rfl ?_
  refine zr_ald (pc := 5) (n := 572) hx hb (zAr_of (zK_int hK) (hP 1 (by decide))) (by decide) (by decide) (by decide) dX8_makeCostume_5 ?_
  refine zr_top (b := g 0) (congrFun hg _) ?_
  refine lv_istore (pc := 6) (lv' := [(7, .int (zI (g 0))), (0, .ref (am 0)), (1, .int (zI (ch))), (2, .int (zI (wa))), (3, .int (zI (le))), (4, .int (zI (al))), (5, .int (zI (co))), (6, .int (zI (sh)))]) hx hb dX8_makeCostume_6 hl (by decide) rfl (fun ls hl => ?_)
  refine lv_aload_n (pc := 8) hx hb dX8_makeCostume_8 rfl (lv_at hl 1 rfl) ?_
  refine zr_get (pc := 9) S hK (hP 0 (by decide)) rfl i_X8 1 (by decide) (List.mem_of_getElem? (i := 1) rfl) rfl dX8_makeCostume_9 ?_
  refine lv_iconst (pc := 12) (v := zI 0) hx hb dX8_makeCostume_12 rfl ?_
  refine lv_dup2_11 (pc := 13) hx hb dX8_makeCostume_13 rfl rfl ?_
  refine zr_ald (pc := 14) (n := 572) hx hb (zAr_of (zK_int hK) (hP 1 (by decide))) (by decide) (by decide) (by decide) dX8_makeCostume_14 ?_
  refine zr_top (b := g 0) (congrFun hg _) ?_
  refine lv_iconst (pc := 15) (v := zI 1) hx hb dX8_makeCostume_15 rfl ?_
  refine zr_iadd (pc := 16) (d := (g 0) + 1) hx hb dX8_makeCostume_16 rfl ?_
  refine zr_ast (pc := 17) (k := 572) hx hb hK (hP 1 (by decide)) (by decide) (by decide) (by decide) hS (hAin 1 (by decide)) dX8_makeCostume_17 (fun H locs hO hz hk hS => ?_)
  have hP := zW.put hP hJ 1 (by decide) hO hk (mC_a 1 (by decide) _ _)
  refine lv_iconst (pc := 18) (v := zI 0) hx hb dX8_makeCostume_18 rfl ?_
  refine lv_istore (pc := 19) (lv' := [(8, .int (zI (0))), (7, .int (zI (g 0))), (0, .ref (am 0)), (1, .int (zI (ch))), (2, .int (zI (wa))), (3, .int (zI (le))), (4, .int (zI (al))), (5, .int (zI (co))), (6, .int (zI (sh)))]) hx hb dX8_makeCostume_19 hl (by decide) rfl (fun ls hl => ?_)
  refine zr_hloop1 (fun (i : Nat) (H : Heap) => ((i : Int) ≤ 20) ∧ (zW D am 5 (mC cI am (va_up (su μ 1 0 ((g 0) + 1)) 1 (cpy ((zu g 0 ((g 0) + 1))) (fun _ => 0) (12 + 20 * g 0) i))) H)) (fun (i : Nat) => 20 - i) (fun (i : Nat) => [(7, .int (zI (g 0))), (0, .ref (am 0)), (1, .int (zI (ch))), (2, .int (zI (wa))), (3, .int (zI (le))), (4, .int (zI (al))), (5, .int (zI (co))), (6, .int (zI (sh))), (8, .int (zI ((i : Int))))]) ?_ (0) (⟨by omega, by rw [cpy_0, ← ((su_eq _ _ _ _).trans (congrArg (fun fz => zu fz 0 ((g 0) + 1)) hg)), va_up_id]; exact hP⟩) hS (lv_sub hl [1, 2, 3, 4, 5, 6, 7, 8, 0] rfl)
  intro i H locs hinv hS ih_21 ls hl
  obtain ⟨h_i, hP⟩ := hinv
  refine lv_iload (pc := 21) hx hb dX8_makeCostume_21 (lv_at hl 8 rfl) ?_
  refine lv_bipush (pc := 23) (v := zI 20) hx hb dX8_makeCostume_23 zc_bipush_20 ?_
  refine zr_icmp_ge (pc := 25) (tgt := 43) hx hb dX8_makeCostume_25 (by decide) (by omega) (by decide) (fun c_25 => ?_) (fun c_25 => ?_)
  · have e43 : i = 20 := by omega
    subst e43
    refine lv_aload_n (pc := 43) hx hb dX8_makeCostume_43 rfl (lv_at hl 1 rfl) ?_
    refine lv_iload (pc := 44) hx hb dX8_makeCostume_44 (lv_at hl 0 rfl) ?_
    refine lv_iconst (pc := 46) (v := zI 0) hx hb dX8_makeCostume_46 rfl ?_
    refine lv_iload_n (pc := 47) hx hb dX8_makeCostume_47 rfl (lv_at hl 2 rfl) ?_
    refine zr_vwv (pc := 48) (As := [.int (zI (g 0)), .int (zI (0)), .int (zI (ch))]) (rest := []) S (ct_X8_lay l D cI cT H.size am ((va_up (su μ 1 0 ((g 0) + 1)) 1 (cpy ((zu g 0 ((g 0) + 1))) (fun _ => 0) (12 + 20 * g 0) 20))) ((cpy ((zu g 0 ((g 0) + 1))) (fun _ => 0) (12 + 20 * g 0) 20)) ((va_up_self ..)) hJ (g 0) 0 ch (by omega) (by omega) (by decide) (by decide)) (cwV 3 hts gX8_makeCostume_X8_lay rfl rfl rfl (by decide +kernel) ⟨Nat.le_of_ble_eq_true rfl, Nat.le_of_ble_eq_true rfl⟩) zs0 hK hP (zr_recv hK (hP 0 (by decide)) rfl) hS (fun q h => h.elim (fun ⟨k, k0, e⟩ => by rw [e]; exact hAin k k0) (fun z => hAn q (Nat.le_trans hS.1 z))) rfl hl.1 rfl (Nat.le_of_ble_eq_true rfl) dX8_makeCostume_48 ⟨Nat.le_of_ble_eq_true rfl, Nat.le_of_ble_eq_true rfl⟩ (fun H locs hG hz hk hS => ?_)
    have hP := hG
    refine lv_aload_n (pc := 51) hx hb dX8_makeCostume_51 rfl (lv_at hl 1 rfl) ?_
    refine lv_iload (pc := 52) hx hb dX8_makeCostume_52 (lv_at hl 0 rfl) ?_
    refine lv_iconst (pc := 54) (v := zI 1) hx hb dX8_makeCostume_54 rfl ?_
    refine lv_iload_n (pc := 55) hx hb dX8_makeCostume_55 rfl (lv_at hl 3 rfl) ?_
    refine zr_vwv (pc := 56) (As := [.int (zI (g 0)), .int (zI (1)), .int (zI (wa))]) (rest := []) S (ct_X8_lay l D cI cT H.size am ((su (va_up (su μ 1 0 ((g 0) + 1)) 1 (cpy ((zu g 0 ((g 0) + 1))) (fun _ => 0) (12 + 20 * g 0) 20)) 1 (12 + 20 * (g 0) + 0) ch)) ((zu ((cpy ((zu g 0 ((g 0) + 1))) (fun _ => 0) (12 + 20 * g 0) 20)) (12 + 20 * (g 0) + 0) ch)) (((su_eq _ _ _ _).trans (congrArg (fun fz => zu fz (12 + 20 * (g 0) + 0) ch) (va_up_self ..)))) hJ (g 0) 1 wa (by omega) (by omega) (by decide) (by decide)) (cwV 3 hts gX8_makeCostume_X8_lay rfl rfl rfl (by decide +kernel) ⟨Nat.le_of_ble_eq_true rfl, Nat.le_of_ble_eq_true rfl⟩) zs0 hK hP (zr_recv hK (hP 0 (by decide)) rfl) hS (fun q h => h.elim (fun ⟨k, k0, e⟩ => by rw [e]; exact hAin k k0) (fun z => hAn q (Nat.le_trans hS.1 z))) rfl hl.1 rfl (Nat.le_of_ble_eq_true rfl) dX8_makeCostume_56 ⟨Nat.le_of_ble_eq_true rfl, Nat.le_of_ble_eq_true rfl⟩ (fun H locs hG hz hk hS => ?_)
    have hP := hG
    refine lv_aload_n (pc := 59) hx hb dX8_makeCostume_59 rfl (lv_at hl 1 rfl) ?_
    refine lv_iload (pc := 60) hx hb dX8_makeCostume_60 (lv_at hl 0 rfl) ?_
    refine lv_iconst (pc := 62) (v := zI 2) hx hb dX8_makeCostume_62 rfl ?_
    refine lv_iload_n (pc := 63) hx hb dX8_makeCostume_63 rfl (lv_at hl 4 rfl) ?_
    refine zr_vwv (pc := 64) (As := [.int (zI (g 0)), .int (zI (2)), .int (zI (le))]) (rest := []) S (ct_X8_lay l D cI cT H.size am ((su (su (va_up (su μ 1 0 ((g 0) + 1)) 1 (cpy ((zu g 0 ((g 0) + 1))) (fun _ => 0) (12 + 20 * g 0) 20)) 1 (12 + 20 * (g 0) + 0) ch) 1 (12 + 20 * (g 0) + 1) wa)) ((zu ((zu ((cpy ((zu g 0 ((g 0) + 1))) (fun _ => 0) (12 + 20 * g 0) 20)) (12 + 20 * (g 0) + 0) ch)) (12 + 20 * (g 0) + 1) wa)) (((su_eq _ _ _ _).trans (congrArg (fun fz => zu fz (12 + 20 * (g 0) + 1) wa) ((su_eq _ _ _ _).trans (congrArg (fun fz => zu fz (12 + 20 * (g 0) + 0) ch) (va_up_self ..)))))) hJ (g 0) 2 le (by omega) (by omega) (by decide) (by decide)) (cwV 3 hts gX8_makeCostume_X8_lay rfl rfl rfl (by decide +kernel) ⟨Nat.le_of_ble_eq_true rfl, Nat.le_of_ble_eq_true rfl⟩) zs0 hK hP (zr_recv hK (hP 0 (by decide)) rfl) hS (fun q h => h.elim (fun ⟨k, k0, e⟩ => by rw [e]; exact hAin k k0) (fun z => hAn q (Nat.le_trans hS.1 z))) rfl hl.1 rfl (Nat.le_of_ble_eq_true rfl) dX8_makeCostume_64 ⟨Nat.le_of_ble_eq_true rfl, Nat.le_of_ble_eq_true rfl⟩ (fun H locs hG hz hk hS => ?_)
    have hP := hG
    refine lv_aload_n (pc := 67) hx hb dX8_makeCostume_67 rfl (lv_at hl 1 rfl) ?_
    refine lv_iload (pc := 68) hx hb dX8_makeCostume_68 (lv_at hl 0 rfl) ?_
    refine lv_iconst (pc := 70) (v := zI 3) hx hb dX8_makeCostume_70 rfl ?_
    refine lv_iload (pc := 71) hx hb dX8_makeCostume_71 (lv_at hl 5 rfl) ?_
    refine zr_vwv (pc := 73) (As := [.int (zI (g 0)), .int (zI (3)), .int (zI (al))]) (rest := []) S (ct_X8_lay l D cI cT H.size am ((su (su (su (va_up (su μ 1 0 ((g 0) + 1)) 1 (cpy ((zu g 0 ((g 0) + 1))) (fun _ => 0) (12 + 20 * g 0) 20)) 1 (12 + 20 * (g 0) + 0) ch) 1 (12 + 20 * (g 0) + 1) wa) 1 (12 + 20 * (g 0) + 2) le)) ((zu ((zu ((zu ((cpy ((zu g 0 ((g 0) + 1))) (fun _ => 0) (12 + 20 * g 0) 20)) (12 + 20 * (g 0) + 0) ch)) (12 + 20 * (g 0) + 1) wa)) (12 + 20 * (g 0) + 2) le)) (((su_eq _ _ _ _).trans (congrArg (fun fz => zu fz (12 + 20 * (g 0) + 2) le) ((su_eq _ _ _ _).trans (congrArg (fun fz => zu fz (12 + 20 * (g 0) + 1) wa) ((su_eq _ _ _ _).trans (congrArg (fun fz => zu fz (12 + 20 * (g 0) + 0) ch) (va_up_self ..)))))))) hJ (g 0) 3 al (by omega) (by omega) (by decide) (by decide)) (cwV 3 hts gX8_makeCostume_X8_lay rfl rfl rfl (by decide +kernel) ⟨Nat.le_of_ble_eq_true rfl, Nat.le_of_ble_eq_true rfl⟩) zs0 hK hP (zr_recv hK (hP 0 (by decide)) rfl) hS (fun q h => h.elim (fun ⟨k, k0, e⟩ => by rw [e]; exact hAin k k0) (fun z => hAn q (Nat.le_trans hS.1 z))) rfl hl.1 rfl (Nat.le_of_ble_eq_true rfl) dX8_makeCostume_73 ⟨Nat.le_of_ble_eq_true rfl, Nat.le_of_ble_eq_true rfl⟩ (fun H locs hG hz hk hS => ?_)
    have hP := hG
    refine lv_aload_n (pc := 76) hx hb dX8_makeCostume_76 rfl (lv_at hl 1 rfl) ?_
    refine lv_iload (pc := 77) hx hb dX8_makeCostume_77 (lv_at hl 0 rfl) ?_
    refine lv_iconst (pc := 79) (v := zI 4) hx hb dX8_makeCostume_79 rfl ?_
    refine lv_iload (pc := 80) hx hb dX8_makeCostume_80 (lv_at hl 6 rfl) ?_
    refine zr_vwv (pc := 82) (As := [.int (zI (g 0)), .int (zI (4)), .int (zI (co))]) (rest := []) S (ct_X8_lay l D cI cT H.size am ((su (su (su (su (va_up (su μ 1 0 ((g 0) + 1)) 1 (cpy ((zu g 0 ((g 0) + 1))) (fun _ => 0) (12 + 20 * g 0) 20)) 1 (12 + 20 * (g 0) + 0) ch) 1 (12 + 20 * (g 0) + 1) wa) 1 (12 + 20 * (g 0) + 2) le) 1 (12 + 20 * (g 0) + 3) al)) ((zu ((zu ((zu ((zu ((cpy ((zu g 0 ((g 0) + 1))) (fun _ => 0) (12 + 20 * g 0) 20)) (12 + 20 * (g 0) + 0) ch)) (12 + 20 * (g 0) + 1) wa)) (12 + 20 * (g 0) + 2) le)) (12 + 20 * (g 0) + 3) al)) (((su_eq _ _ _ _).trans (congrArg (fun fz => zu fz (12 + 20 * (g 0) + 3) al) ((su_eq _ _ _ _).trans (congrArg (fun fz => zu fz (12 + 20 * (g 0) + 2) le) ((su_eq _ _ _ _).trans (congrArg (fun fz => zu fz (12 + 20 * (g 0) + 1) wa) ((su_eq _ _ _ _).trans (congrArg (fun fz => zu fz (12 + 20 * (g 0) + 0) ch) (va_up_self ..)))))))))) hJ (g 0) 4 co (by omega) (by omega) (by decide) (by decide)) (cwV 3 hts gX8_makeCostume_X8_lay rfl rfl rfl (by decide +kernel) ⟨Nat.le_of_ble_eq_true rfl, Nat.le_of_ble_eq_true rfl⟩) zs0 hK hP (zr_recv hK (hP 0 (by decide)) rfl) hS (fun q h => h.elim (fun ⟨k, k0, e⟩ => by rw [e]; exact hAin k k0) (fun z => hAn q (Nat.le_trans hS.1 z))) rfl hl.1 rfl (Nat.le_of_ble_eq_true rfl) dX8_makeCostume_82 ⟨Nat.le_of_ble_eq_true rfl, Nat.le_of_ble_eq_true rfl⟩ (fun H locs hG hz hk hS => ?_)
    have hP := hG
    refine lv_aload_n (pc := 85) hx hb dX8_makeCostume_85 rfl (lv_at hl 1 rfl) ?_
    refine lv_iload (pc := 86) hx hb dX8_makeCostume_86 (lv_at hl 0 rfl) ?_
    refine lv_iconst (pc := 88) (v := zI 5) hx hb dX8_makeCostume_88 rfl ?_
    refine lv_iload (pc := 89) hx hb dX8_makeCostume_89 (lv_at hl 7 rfl) ?_
    refine zr_vwv (pc := 91) (As := [.int (zI (g 0)), .int (zI (5)), .int (zI (sh))]) (rest := []) S (ct_X8_lay l D cI cT H.size am ((su (su (su (su (su (va_up (su μ 1 0 ((g 0) + 1)) 1 (cpy ((zu g 0 ((g 0) + 1))) (fun _ => 0) (12 + 20 * g 0) 20)) 1 (12 + 20 * (g 0) + 0) ch) 1 (12 + 20 * (g 0) + 1) wa) 1 (12 + 20 * (g 0) + 2) le) 1 (12 + 20 * (g 0) + 3) al) 1 (12 + 20 * (g 0) + 4) co)) ((zu ((zu ((zu ((zu ((zu ((cpy ((zu g 0 ((g 0) + 1))) (fun _ => 0) (12 + 20 * g 0) 20)) (12 + 20 * (g 0) + 0) ch)) (12 + 20 * (g 0) + 1) wa)) (12 + 20 * (g 0) + 2) le)) (12 + 20 * (g 0) + 3) al)) (12 + 20 * (g 0) + 4) co)) (((su_eq _ _ _ _).trans (congrArg (fun fz => zu fz (12 + 20 * (g 0) + 4) co) ((su_eq _ _ _ _).trans (congrArg (fun fz => zu fz (12 + 20 * (g 0) + 3) al) ((su_eq _ _ _ _).trans (congrArg (fun fz => zu fz (12 + 20 * (g 0) + 2) le) ((su_eq _ _ _ _).trans (congrArg (fun fz => zu fz (12 + 20 * (g 0) + 1) wa) ((su_eq _ _ _ _).trans (congrArg (fun fz => zu fz (12 + 20 * (g 0) + 0) ch) (va_up_self ..)))))))))))) hJ (g 0) 5 sh (by omega) (by omega) (by decide) (by decide)) (cwV 3 hts gX8_makeCostume_X8_lay rfl rfl rfl (by decide +kernel) ⟨Nat.le_of_ble_eq_true rfl, Nat.le_of_ble_eq_true rfl⟩) zs0 hK hP (zr_recv hK (hP 0 (by decide)) rfl) hS (fun q h => h.elim (fun ⟨k, k0, e⟩ => by rw [e]; exact hAin k k0) (fun z => hAn q (Nat.le_trans hS.1 z))) rfl hl.1 rfl (Nat.le_of_ble_eq_true rfl) dX8_makeCostume_91 ⟨Nat.le_of_ble_eq_true rfl, Nat.le_of_ble_eq_true rfl⟩ (fun H locs hG hz hk hS => ?_)
    have hP := hG
    refine lv_iload (pc := 94) hx hb dX8_makeCostume_94 (lv_at hl 0 rfl) ?_
    exact W.iret (v := zI (g 0)) hx hb hr (fun tz ht hW => ⟨⟨zI (g 0), zI (g 0), rfl, rfl, by dsimp only; rw [ht]; exact ⟨rfl, by have h := hP; rw [su_va, su_va, su_va, su_va, su_va, su_va, mkC_z g h0, show va_up (su μ 1 0 (g 0 + 1)) 1 (mkC g ch wa le al co sh) = va_up μ 1 (mkC g ch wa le al co sh) from su_up _ _ _ _ _] at h; exact h⟩⟩, hS.F ht⟩) hS.2.2 dX8_makeCostume_96
  · refine lv_aload_n (pc := 28) hx hb dX8_makeCostume_28 rfl (lv_at hl 1 rfl) ?_
    refine lv_iload (pc := 29) hx hb dX8_makeCostume_29 (lv_at hl 0 rfl) ?_
    refine lv_iload (pc := 31) hx hb dX8_makeCostume_31 (lv_at hl 8 rfl) ?_
    refine lv_iconst (pc := 33) (v := zI 0) hx hb dX8_makeCostume_33 rfl ?_
    refine zr_vwv (pc := 34) (As := [.int (zI (g 0)), .int (zI ((i : Int))), .int (zI (0))]) (rest := []) S (ct_X8_lay l D cI cT H.size am ((va_up (su μ 1 0 ((g 0) + 1)) 1 (cpy ((zu g 0 ((g 0) + 1))) (fun _ => 0) (12 + 20 * g 0) i))) ((cpy ((zu g 0 ((g 0) + 1))) (fun _ => 0) (12 + 20 * g 0) i)) ((va_up_self ..)) hJ (g 0) ((i : Int)) 0 (by omega) (by omega) (by omega) (by omega)) (cwV 3 hts gX8_makeCostume_X8_lay rfl rfl rfl (by decide +kernel) ⟨Nat.le_of_ble_eq_true rfl, Nat.le_of_ble_eq_true rfl⟩) zs0 hK hP (zr_recv hK (hP 0 (by decide)) rfl) hS (fun q h => h.elim (fun ⟨k, k0, e⟩ => by rw [e]; exact hAin k k0) (fun z => hAn q (Nat.le_trans hS.1 z))) rfl hl.1 rfl (Nat.le_of_ble_eq_true rfl) dX8_makeCostume_34 ⟨Nat.le_of_ble_eq_true rfl, Nat.le_of_ble_eq_true rfl⟩ (fun H locs hG hz hk hS => ?_)
    have hP := hG
    refine zr_iinc (pc := 37) (d := ((i : Int)) + 1) (lv' := [(8, .int (zI (((i : Int)) + 1))), (7, .int (zI (g 0))), (0, .ref (am 0)), (1, .int (zI (ch))), (2, .int (zI (wa))), (3, .int (zI (le))), (4, .int (zI (al))), (5, .int (zI (co))), (6, .int (zI (sh)))]) hx hb dX8_makeCostume_37 hl (k := 8) rfl rfl (by decide) rfl (fun ls hl => ?_)
    refine lv_goto (pc := 40) (tgt := 21) hx hb dX8_makeCostume_40 (by decide) ?_
    exact ih_21 (i + 1) H locs (⟨by omega, by have h := hP; rw [su_va, cpy_s _ _ _ _ rfl rfl] at h; exact h⟩) hS (by omega) ls (lv_sub hl [1, 2, 3, 4, 5, 6, 7, 8, 0] rfl)
set_option maxHeartbeats 4000000 in
set_option maxRecDepth 100000 in
theorem ct_X8_exchange (l : Launch) (D : va_G) (cI cT : ClassId) (sz : Nat) (am : Nat → Nat) (μ : Nat → Int → Int) (g : Int → Int) (hg : μ 1 = g) (hJ : zJ am 5)   : zMv l yX8_exchange wsX8_exchange ({ frames := 0, cells := 0, slots := 0, locals := 0 }) D cI cT [.ref (am 0)] sz (fun _ H => zW D am 5 (mC cI am μ) H) (fun H => zW D am 5 (mC cI am (va_up (va_up μ 1 (cpy (μ 1) (μ 2) 0 572)) 2 (cpy (μ 2) (μ 1) 0 572))) H) (zR am 5 sz) := by
  refine Met.ofW (cc := cX8_exchange) (maxL := 3) (ret := none) (by decide) rfl ?_
  intro p_ e_ s m_ args below meth c_ s₁ B hml hv
  obtain ⟨rfl, hsz, hK, hF⟩ := hv
  have hx := B.exec
  have hb := B.bytes
  have hr := B.returns
  have hts := atoms_spec (ws := wsX8_exchange) B.pre
  have hown : s.vm.findClass RX8 = some m_.cls := findClass_of_methodNamed B.named
  have hlocks := B.notSynchronized
  have S : CallFix p_ m_ c_ cX8_exchange 3 s _ wsX8_exchange RX8 := ⟨hx, hb, hml, hown, hts⟩
  have i_X8 : ∀ w ∈ u_ws RX8 TX8 12, w ∈ wsX8_exchange := fun _ h => List.mem_cons_of_mem _ (List.mem_append_right _ h)
  subst hsz
  generalize hAe : (zR am 5 s.heap.size) = A
  have hAn : ∀ q : Nat, s.heap.size ≤ q → A q := fun q h => by rw [← hAe]; exact Or.inr h
  obtain ⟨H, hHe⟩ : ∃ H : Heap, H = s.heap := ⟨_, rfl⟩
  rw [← hHe] at hF ⊢
  have hS : va_S A s.heap H [] := by rw [hHe]; exact va_S.rf
  have hP := hF
  have hAin : ∀ k : Nat, k < 5 → A (am k) := fun k hk => by rw [← hAe]; exact Or.inl ⟨k, hk, rfl⟩
  have hl := lv_entry ([.ref (am 0)]) (n := 3) (Nat.le_of_ble_eq_true rfl)
  rw [lg_entry_eq]
  generalize (lg_sl ([.ref (am 0)]) ++ List.replicate (3 - (lg_sl ([.ref (am 0)])).length) Slot.unset).toArray = ls at hl ⊢
  have hl : lv_has ls 3 [(0, .ref (am 0))] := hl
  refine lv_iconst (pc := 0) (v := zI 0) hx hb dX8_exchange_0 rfl ?_
  refine lv_istore_n (pc := 1) (lv' := [(1, .int (zI (0))), (0, .ref (am 0))]) hx hb dX8_exchange_1 rfl hl (by decide) rfl (fun ls hl => ?_)
  refine zr_hloop1 (fun (i : Nat) (H : Heap) => ((i : Int) ≤ 572) ∧ (zW D am 5 (mC cI am (va_up (va_up μ 1 (cpy (μ 1) (μ 2) 0 i)) 2 (cpy (μ 2) (μ 1) 0 i))) H)) (fun (i : Nat) => 572 - i) (fun (i : Nat) => [(0, .ref (am 0)), (1, .int (zI ((i : Int))))]) ?_ (0) (⟨by omega, by rw [cpy_0, cpy_0, va_up_id, va_up_id]; exact hP⟩) hS (lv_sub hl [1, 0] rfl)
  intro i H locs hinv hS ih_2 ls hl
  obtain ⟨h_i, hP⟩ := hinv
  refine lv_iload_n (pc := 2) hx hb dX8_exchange_2 rfl (lv_at hl 1 rfl) ?_
  refine lv_sipush (pc := 3) (v := zI 572) hx hb dX8_exchange_3 zc_sipush_572 ?_
  refine zr_icmp_ge (pc := 6) (tgt := 41) hx hb dX8_exchange_6 (by decide) (by omega) (by decide) (fun c_6 => ?_) (fun c_6 => ?_)
  · have e41 : i = 572 := by omega
    subst e41
    exact W.vret hx hb hr (fun tz ht hW => ⟨⟨(), rfl, trivial, by dsimp only; rw [ht]; exact hP⟩, hS.F ht⟩) hS.2.2 dX8_exchange_41
  · refine lv_aload_n (pc := 9) hx hb dX8_exchange_9 rfl (lv_at hl 0 rfl) ?_
    refine zr_get (pc := 10) S hK (hP 0 (by decide)) rfl i_X8 1 (by decide) (List.mem_of_getElem? (i := 1) rfl) rfl dX8_exchange_10 ?_
    refine lv_iload_n (pc := 13) hx hb dX8_exchange_13 rfl (lv_at hl 1 rfl) ?_
    refine zr_ald (pc := 14) (n := 572) hx hb (zAr_of (zK_int hK) (hP 1 (by decide))) (by omega) (by omega) (by decide) dX8_exchange_14 ?_
    refine lv_istore_n (pc := 15) (lv' := [(2, .int (zI ((va_up (va_up μ 1 (cpy (μ 1) (μ 2) 0 i)) 2 (cpy (μ 2) (μ 1) 0 i)) 1 ((i : Int))))), (0, .ref (am 0)), (1, .int (zI ((i : Int))))]) hx hb dX8_exchange_15 rfl hl (by decide) rfl (fun ls hl => ?_)
    refine lv_aload_n (pc := 16) hx hb dX8_exchange_16 rfl (lv_at hl 1 rfl) ?_
    refine zr_get (pc := 17) S hK (hP 0 (by decide)) rfl i_X8 1 (by decide) (List.mem_of_getElem? (i := 1) rfl) rfl dX8_exchange_17 ?_
    refine lv_iload_n (pc := 20) hx hb dX8_exchange_20 rfl (lv_at hl 2 rfl) ?_
    refine lv_aload_n (pc := 21) hx hb dX8_exchange_21 rfl (lv_at hl 1 rfl) ?_
    refine zr_get (pc := 22) S hK (hP 0 (by decide)) rfl i_X8 2 (by decide) (List.mem_of_getElem? (i := 2) rfl) rfl dX8_exchange_22 ?_
    refine lv_iload_n (pc := 25) hx hb dX8_exchange_25 rfl (lv_at hl 2 rfl) ?_
    refine zr_ald (pc := 26) (n := 572) hx hb (zAr_of (zK_int hK) (hP 2 (by decide))) (by omega) (by omega) (by decide) dX8_exchange_26 ?_
    refine zr_ast (pc := 27) (k := 572) hx hb hK (hP 1 (by decide)) (by omega) (by omega) (by decide) hS (hAin 1 (by decide)) dX8_exchange_27 (fun H locs hO hz hk hS => ?_)
    have hP := zW.put hP hJ 1 (by decide) hO hk (mC_a 1 (by decide) _ _)
    refine lv_aload_n (pc := 28) hx hb dX8_exchange_28 rfl (lv_at hl 1 rfl) ?_
    refine zr_get (pc := 29) S hK (hP 0 (by decide)) rfl i_X8 2 (by decide) (List.mem_of_getElem? (i := 2) rfl) rfl dX8_exchange_29 ?_
    refine lv_iload_n (pc := 32) hx hb dX8_exchange_32 rfl (lv_at hl 2 rfl) ?_
    refine lv_iload_n (pc := 33) hx hb dX8_exchange_33 rfl (lv_at hl 0 rfl) ?_
    refine zr_ast (pc := 34) (k := 572) hx hb hK (hP 2 (by decide)) (by omega) (by omega) (by decide) hS (hAin 2 (by decide)) dX8_exchange_34 (fun H locs hO hz hk hS => ?_)
    have hP := zW.put hP hJ 2 (by decide) hO hk (mC_a 2 (by decide) _ _)
    refine zr_iinc (pc := 35) (d := ((i : Int)) + 1) (lv' := [(1, .int (zI (((i : Int)) + 1))), (2, .int (zI ((va_up (va_up μ 1 (cpy (μ 1) (μ 2) 0 i)) 2 (cpy (μ 2) (μ 1) 0 i)) 1 ((i : Int))))), (0, .ref (am 0))]) hx hb dX8_exchange_35 hl (k := 2) rfl rfl (by decide) rfl (fun ls hl => ?_)
    refine lv_goto (pc := 38) (tgt := 2) hx hb dX8_exchange_38 (by decide) ?_
    exact ih_2 (i + 1) H locs (⟨by omega, by have h := hP; rw [ex_s] at h; exact h⟩) hS (by omega) ls (lv_sub hl [2, 0] rfl)
