set_option maxHeartbeats 4000000 in
set_option maxRecDepth 100000 in
theorem ct_X8_makeActor (l : Launch) (D : va_G) (cI cT : ClassId) (sz : Nat) (am : Nat → Nat) (μ : Nat → Int → Int) (g : Int → Int) (hg : μ 1 = g) (hJ : zJ am 5) (ch : Int) (wa : Int) (le : Int) (h0 : 0 ≤ g 1) (h1 : g 1 < 8) : zMi l yX8_makeActor wsX8_makeActor ({ frames := 0, cells := 0, slots := 0, locals := 0 }) D cI cT [.ref (am 0), .int (zI (ch)), .int (zI (wa)), .int (zI (le))] sz (fun _ H => zW D am 5 (mC cI am μ) H) (fun rr H => rr = zI (g 1) ∧ zW D am 5 (mC cI am (va_up μ 1 (mkA g ch wa le))) H) (zR am 5 sz) := by
  refine Met.ofW (cc := cX8_makeActor) (maxL := 6) (ret := (some .int)) (by decide) rfl ?_
  intro p_ e_ s m_ args below meth c_ s₁ B hml hv
  obtain ⟨rfl, hsz, hK, hF⟩ := hv
  have hx := B.exec
  have hb := B.bytes
  have hr := B.returns
  have hts := atoms_spec (ws := wsX8_makeActor) B.pre
  have hown : s.vm.findClass RX8 = some m_.cls := findClass_of_methodNamed B.named
  have hlocks := B.notSynchronized
  have S : CallFix p_ m_ c_ cX8_makeActor 6 s _ wsX8_makeActor RX8 := ⟨hx, hb, hml, hown, hts⟩
  have i_X8 : ∀ w ∈ u_ws RX8 TX8 12, w ∈ wsX8_makeActor := fun _ h => List.mem_cons_of_mem _ (List.mem_append_right _ h)
  subst hsz
  generalize hAe : (zR am 5 s.heap.size) = A
  have hAn : ∀ q : Nat, s.heap.size ≤ q → A q := fun q h => by rw [← hAe]; exact Or.inr h
  obtain ⟨H, hHe⟩ : ∃ H : Heap, H = s.heap := ⟨_, rfl⟩
  rw [← hHe] at hF ⊢
  have hS : va_S A s.heap H [] := by rw [hHe]; exact va_S.rf
  have hP := hF
  have hAin : ∀ k : Nat, k < 5 → A (am k) := fun k hk => by rw [← hAe]; exact Or.inl ⟨k, hk, rfl⟩
  have e1 : μ 1 1 = g 1 := congrFun hg 1
  have hl := lv_entry ([.ref (am 0), .int (zI (ch)), .int (zI (wa)), .int (zI (le))]) (n := 6) (Nat.le_of_ble_eq_true rfl)
  rw [lg_entry_eq]
  generalize (lg_sl ([.ref (am 0), .int (zI (ch)), .int (zI (wa)), .int (zI (le))]) ++ List.replicate (6 - (lg_sl ([.ref (am 0), .int (zI (ch)), .int (zI (wa)), .int (zI (le))])).length) Slot.unset).toArray = ls at hl ⊢
  have hl : lv_has ls 6 [(0, .ref (am 0)), (1, .int (zI (ch))), (2, .int (zI (wa))), (3, .int (zI (le)))] := hl
  refine lv_aload_n (pc := 0) hx hb dX8_makeActor_0 rfl (lv_at hl 0 rfl) ?_
  refine zr_get (pc := 1) S hK (hP 0 (by decide)) rfl i_X8 1 (by decide) (List.mem_of_getElem? (i := 1) rfl) rfl dX8_makeActor_1 ?_
  refine lv_iconst (pc := 4) (v := zI 1) hx hb dX8_makeActor_4 rfl ?_
  refine zr_ald (pc := 5) (n := 572) hx hb (zAr_of (zK_int hK) (hP 1 (by decide))) (by decide) (by decide) (by decide) dX8_makeActor_5 ?_
  refine zr_top (b := g 1) (congrFun hg _) ?_
  refine lv_istore (pc := 6) (lv' := [(4, .int (zI (g 1))), (0, .ref (am 0)), (1, .int (zI (ch))), (2, .int (zI (wa))), (3, .int (zI (le)))]) hx hb dX8_makeActor_6 hl (by decide) rfl (fun ls hl => ?_)
  refine lv_aload_n (pc := 8) hx hb dX8_makeActor_8 rfl (lv_at hl 1 rfl) ?_
  refine zr_get (pc := 9) S hK (hP 0 (by decide)) rfl i_X8 1 (by decide) (List.mem_of_getElem? (i := 1) rfl) rfl dX8_makeActor_9 ?_
  refine lv_iconst (pc := 12) (v := zI 1) hx hb dX8_makeActor_12 rfl ?_
  refine lv_dup2_11 (pc := 13) hx hb dX8_makeActor_13 rfl rfl ?_
  refine zr_ald (pc := 14) (n := 572) hx hb (zAr_of (zK_int hK) (hP 1 (by decide))) (by decide) (by decide) (by decide) dX8_makeActor_14 ?_
  refine zr_top (b := g 1) (congrFun hg _) ?_
  refine lv_iconst (pc := 15) (v := zI 1) hx hb dX8_makeActor_15 rfl ?_
  refine zr_iadd (pc := 16) (d := (g 1) + 1) hx hb dX8_makeActor_16 rfl ?_
  refine zr_ast (pc := 17) (k := 572) hx hb hK (hP 1 (by decide)) (by decide) (by decide) (by decide) hS (hAin 1 (by decide)) dX8_makeActor_17 (fun H locs hO hz hk hS => ?_)
  have hP := zW.put hP hJ 1 (by decide) hO hk (mC_a 1 (by decide) _ _)
  refine lv_aload_n (pc := 18) hx hb dX8_makeActor_18 rfl (lv_at hl 1 rfl) ?_
  refine zr_get (pc := 19) S hK (hP 0 (by decide)) rfl i_X8 1 (by decide) (List.mem_of_getElem? (i := 1) rfl) rfl dX8_makeActor_19 ?_
  refine lv_sipush (pc := 22) (v := zI 332) hx hb dX8_makeActor_22 zc_sipush_332 ?_
  refine lv_iconst (pc := 25) (v := zI 3) hx hb dX8_makeActor_25 rfl ?_
  refine lv_iload (pc := 26) hx hb dX8_makeActor_26 (lv_at hl 0 rfl) ?_
  refine zr_imul (pc := 28) (d := 3 * (g 1)) hx hb dX8_makeActor_28 rfl ?_
  refine zr_iadd (pc := 29) (d := 332 + (3 * (g 1))) hx hb dX8_makeActor_29 rfl ?_
  refine lv_iload_n (pc := 30) hx hb dX8_makeActor_30 rfl (lv_at hl 2 rfl) ?_
  refine zr_ast (pc := 31) (k := 572) hx hb hK (hP 1 (by decide)) (by omega) (by omega) (by decide) hS (hAin 1 (by decide)) dX8_makeActor_31 (fun H locs hO hz hk hS => ?_)
  have hP := zW.put hP hJ 1 (by decide) hO hk (mC_a 1 (by decide) _ _)
  refine lv_aload_n (pc := 32) hx hb dX8_makeActor_32 rfl (lv_at hl 1 rfl) ?_
  refine zr_get (pc := 33) S hK (hP 0 (by decide)) rfl i_X8 1 (by decide) (List.mem_of_getElem? (i := 1) rfl) rfl dX8_makeActor_33 ?_
  refine lv_sipush (pc := 36) (v := zI 332) hx hb dX8_makeActor_36 zc_sipush_332 ?_
  refine lv_iconst (pc := 39) (v := zI 3) hx hb dX8_makeActor_39 rfl ?_
  refine lv_iload (pc := 40) hx hb dX8_makeActor_40 (lv_at hl 0 rfl) ?_
  refine zr_imul (pc := 42) (d := 3 * (g 1)) hx hb dX8_makeActor_42 rfl ?_
  refine zr_iadd (pc := 43) (d := 332 + (3 * (g 1))) hx hb dX8_makeActor_43 rfl ?_
  refine lv_iconst (pc := 44) (v := zI 1) hx hb dX8_makeActor_44 rfl ?_
  refine zr_iadd (pc := 45) (d := (332 + (3 * (g 1))) + 1) hx hb dX8_makeActor_45 rfl ?_
  refine lv_iload_n (pc := 46) hx hb dX8_makeActor_46 rfl (lv_at hl 3 rfl) ?_
  refine zr_ast (pc := 47) (k := 572) hx hb hK (hP 1 (by decide)) (by omega) (by omega) (by decide) hS (hAin 1 (by decide)) dX8_makeActor_47 (fun H locs hO hz hk hS => ?_)
  have hP := zW.put hP hJ 1 (by decide) hO hk (mC_a 1 (by decide) _ _)
  refine lv_aload_n (pc := 48) hx hb dX8_makeActor_48 rfl (lv_at hl 1 rfl) ?_
  refine zr_get (pc := 49) S hK (hP 0 (by decide)) rfl i_X8 1 (by decide) (List.mem_of_getElem? (i := 1) rfl) rfl dX8_makeActor_49 ?_
  refine lv_sipush (pc := 52) (v := zI 332) hx hb dX8_makeActor_52 zc_sipush_332 ?_
  refine lv_iconst (pc := 55) (v := zI 3) hx hb dX8_makeActor_55 rfl ?_
  refine lv_iload (pc := 56) hx hb dX8_makeActor_56 (lv_at hl 0 rfl) ?_
  refine zr_imul (pc := 58) (d := 3 * (g 1)) hx hb dX8_makeActor_58 rfl ?_
  refine zr_iadd (pc := 59) (d := 332 + (3 * (g 1))) hx hb dX8_makeActor_59 rfl ?_
  refine lv_iconst (pc := 60) (v := zI 2) hx hb dX8_makeActor_60 rfl ?_
  refine zr_iadd (pc := 61) (d := (332 + (3 * (g 1))) + 2) hx hb dX8_makeActor_61 rfl ?_
  refine lv_iload_n (pc := 62) hx hb dX8_makeActor_62 rfl (lv_at hl 4 rfl) ?_
  refine zr_ast (pc := 63) (k := 572) hx hb hK (hP 1 (by decide)) (by omega) (by omega) (by decide) hS (hAin 1 (by decide)) dX8_makeActor_63 (fun H locs hO hz hk hS => ?_)
  have hP := zW.put hP hJ 1 (by decide) hO hk (mC_a 1 (by decide) _ _)
  refine lv_iconst (pc := 64) (v := zI 0) hx hb dX8_makeActor_64 rfl ?_
  refine lv_istore (pc := 65) (lv' := [(5, .int (zI (0))), (4, .int (zI (g 1))), (0, .ref (am 0)), (1, .int (zI (ch))), (2, .int (zI (wa))), (3, .int (zI (le)))]) hx hb dX8_makeActor_65 hl (by decide) rfl (fun ls hl => ?_)
  refine zr_hloop1 (fun (i : Nat) (H : Heap) => ((i : Int) ≤ 12) ∧ (zW D am 5 (mC cI am (va_up (su (su (su (su μ 1 1 ((g 1) + 1)) 1 (332 + (3 * (g 1))) ch) 1 ((332 + (3 * (g 1))) + 1) wa) 1 ((332 + (3 * (g 1))) + 2) le) 1 (stA ((zu ((zu ((zu ((zu g 1 ((g 1) + 1))) (332 + (3 * (g 1))) ch)) ((332 + (3 * (g 1))) + 1) wa)) ((332 + (3 * (g 1))) + 2) le)) (g 1) i))) H)) (fun (i : Nat) => 12 - i) (fun (i : Nat) => [(4, .int (zI (g 1))), (0, .ref (am 0)), (1, .int (zI (ch))), (2, .int (zI (wa))), (3, .int (zI (le))), (5, .int (zI ((i : Int))))]) ?_ (0) (⟨by omega, by rw [stA_0, ← ((su_eq _ _ _ _).trans (congrArg (fun fz => zu fz ((332 + (3 * (g 1))) + 2) le) ((su_eq _ _ _ _).trans (congrArg (fun fz => zu fz ((332 + (3 * (g 1))) + 1) wa) ((su_eq _ _ _ _).trans (congrArg (fun fz => zu fz (332 + (3 * (g 1))) ch) ((su_eq _ _ _ _).trans (congrArg (fun fz => zu fz 1 ((g 1) + 1)) hg)))))))), va_up_id]; exact hP⟩) hS (lv_sub hl [1, 2, 3, 4, 5, 0] rfl)
  intro i H locs hinv hS ih_67 ls hl
  obtain ⟨h_i, hP⟩ := hinv
  refine lv_iload (pc := 67) hx hb dX8_makeActor_67 (lv_at hl 5 rfl) ?_
  refine lv_bipush (pc := 69) (v := zI 12) hx hb dX8_makeActor_69 zc_bipush_12 ?_
  refine zr_icmp_ge (pc := 71) (tgt := 98) hx hb dX8_makeActor_71 (by decide) (by omega) (by decide) (fun c_71 => ?_) (fun c_71 => ?_)
  · have e98 : i = 12 := by omega
    subst e98
    refine lv_iload (pc := 98) hx hb dX8_makeActor_98 (lv_at hl 0 rfl) ?_
    exact W.iret (v := zI (g 1)) hx hb hr (fun tz ht hW => ⟨⟨zI (g 1), zI (g 1), rfl, rfl, by dsimp only; rw [ht]; exact ⟨rfl, by have h := hP; rw [mkA_z g h0 h1, su_up, su_up, su_up, su_up] at h; exact h⟩⟩, hS.F ht⟩) hS.2.2 dX8_makeActor_100
  · refine lv_aload_n (pc := 74) hx hb dX8_makeActor_74 rfl (lv_at hl 1 rfl) ?_
    refine zr_get (pc := 75) S hK (hP 0 (by decide)) rfl i_X8 1 (by decide) (List.mem_of_getElem? (i := 1) rfl) rfl dX8_makeActor_75 ?_
    refine lv_sipush (pc := 78) (v := zI 356) hx hb dX8_makeActor_78 zc_sipush_356 ?_
    refine lv_bipush (pc := 81) (v := zI 8) hx hb dX8_makeActor_81 zc_bipush_8 ?_
    refine lv_iload (pc := 83) hx hb dX8_makeActor_83 (lv_at hl 5 rfl) ?_
    refine zr_imul (pc := 85) (d := 8 * ((i : Int))) hx hb dX8_makeActor_85 rfl ?_
    refine zr_iadd (pc := 86) (d := 356 + (8 * ((i : Int)))) hx hb dX8_makeActor_86 rfl ?_
    refine lv_iload (pc := 87) hx hb dX8_makeActor_87 (lv_at hl 0 rfl) ?_
    refine zr_iadd (pc := 89) (d := (356 + (8 * ((i : Int)))) + (g 1)) hx hb dX8_makeActor_89 rfl ?_
    refine lv_iconst (pc := 90) (v := zI (-1)) hx hb dX8_makeActor_90 rfl ?_
    refine zr_ast (pc := 91) (k := 572) hx hb hK (hP 1 (by decide)) (by omega) (by omega) (by decide) hS (hAin 1 (by decide)) dX8_makeActor_91 (fun H locs hO hz hk hS => ?_)
    have hP := zW.put hP hJ 1 (by decide) hO hk (mC_a 1 (by decide) _ _)
    refine zr_iinc (pc := 92) (d := ((i : Int)) + 1) (lv' := [(5, .int (zI (((i : Int)) + 1))), (4, .int (zI (g 1))), (0, .ref (am 0)), (1, .int (zI (ch))), (2, .int (zI (wa))), (3, .int (zI (le)))]) hx hb dX8_makeActor_92 hl (k := 5) rfl rfl (by decide) rfl (fun ls hl => ?_)
    refine lv_goto (pc := 95) (tgt := 67) hx hb dX8_makeActor_95 (by decide) ?_
    exact ih_67 (i + 1) H locs (⟨by omega, by have h := hP; rw [su_va, stA_s _ h0 h1] at h; exact h⟩) hS (by omega) ls (lv_sub hl [1, 2, 3, 4, 5, 0] rfl)
set_option maxHeartbeats 4000000 in
set_option maxRecDepth 100000 in
theorem ct_X8_put (l : Launch) (D : va_G) (cI cT : ClassId) (sz : Nat) (am : Nat → Nat) (μ : Nat → Int → Int) (g : Int → Int) (n : Nat) (hs : Nat → Int → Int) (tl : Int) (tx : Int → Int) (hM : mR μ g n hs tl tx) (hI : Inv g) (hJ : zJ am 5) (i v : Int) (i0 : 0 ≤ i) (i1 : i < 572) : zMi l yX8_put wsX8_put ({ frames := 1, cells := 0, slots := 0, locals := 21 }) D cI cT [.ref (am 0), .int (zI (i)), .int (zI (v))] sz (fun _ H => zW D am 5 (mC cI am μ) H) (fun rr H => rr = zI (g i) ∧ ∃ μ' : Nat → Int → Int, mR μ' (zu g i v) (hpN n) (hpS n hs g) tl tx ∧ zW D am 5 (mC cI am μ') H) (zR am 5 sz) := by
  refine Met.ofW (cc := cX8_put) (maxL := 4) (ret := (some .int)) (by decide) rfl ?_
  intro p_ e_ s m_ args below meth c_ s₁ B hml hv
  obtain ⟨rfl, hsz, hK, hF⟩ := hv
  have hx := B.exec
  have hb := B.bytes
  have hr := B.returns
  have hts := atoms_spec (ws := wsX8_put) B.pre
  have hown : s.vm.findClass RX8 = some m_.cls := findClass_of_methodNamed B.named
  have hlocks := B.notSynchronized
  have S : CallFix p_ m_ c_ cX8_put 4 s _ wsX8_put RX8 := ⟨hx, hb, hml, hown, hts⟩
  have i_X8 : ∀ w ∈ u_ws RX8 TX8 12, w ∈ wsX8_put := fun _ h => List.mem_cons_of_mem _ (List.mem_append_right _ h)
  subst hsz
  generalize hAe : (zR am 5 s.heap.size) = A
  have hAn : ∀ q : Nat, s.heap.size ≤ q → A q := fun q h => by rw [← hAe]; exact Or.inr h
  obtain ⟨H, hHe⟩ : ∃ H : Heap, H = s.heap := ⟨_, rfl⟩
  rw [← hHe] at hF ⊢
  have hS : va_S A s.heap H [] := by rw [hHe]; exact va_S.rf
  have hP := hF
  have hg := hM.1
  have hAin : ∀ k : Nat, k < 5 → A (am k) := fun k hk => by rw [← hAe]; exact Or.inl ⟨k, hk, rfl⟩
  have hl := lv_entry ([.ref (am 0), .int (zI (i)), .int (zI (v))]) (n := 4) (Nat.le_of_ble_eq_true rfl)
  rw [lg_entry_eq]
  generalize (lg_sl ([.ref (am 0), .int (zI (i)), .int (zI (v))]) ++ List.replicate (4 - (lg_sl ([.ref (am 0), .int (zI (i)), .int (zI (v))])).length) Slot.unset).toArray = ls at hl ⊢
  have hl : lv_has ls 4 [(0, .ref (am 0)), (1, .int (zI (i))), (2, .int (zI (v)))] := hl
  refine lv_aload_n (pc := 0) hx hb dX8_put_0 rfl (lv_at hl 0 rfl) ?_
  refine zr_vwv (pc := 1) (As := []) (rest := []) S (ct_X8_act l D cI cT H.size am μ g n hs tl tx hM hI hJ) (cwV 0 hts gX8_put_X8_act rfl rfl rfl (by decide +kernel) ⟨Nat.le_of_ble_eq_true rfl, Nat.le_of_ble_eq_true rfl⟩) zs0 hK hP (zr_recv hK (hP 0 (by decide)) rfl) hS (fun q h => h.elim (fun ⟨k, k0, e⟩ => by rw [e]; exact hAin k k0) (fun z => hAn q (Nat.le_trans hS.1 z))) rfl hl.1 rfl (Nat.le_of_ble_eq_true rfl) dX8_put_1 ⟨Nat.le_of_ble_eq_true rfl, Nat.le_of_ble_eq_true rfl⟩ (fun H locs hG hz hk hS => ?_)
  obtain ⟨μ2, ha2, hM2, hP⟩ := hG
  refine lv_aload_n (pc := 4) hx hb dX8_put_4 rfl (lv_at hl 0 rfl) ?_
  refine zr_get (pc := 5) S hK (hP 0 (by decide)) rfl i_X8 1 (by decide) (List.mem_of_getElem? (i := 1) rfl) rfl dX8_put_5 ?_
  refine lv_iload_n (pc := 8) hx hb dX8_put_8 rfl (lv_at hl 1 rfl) ?_
  refine zr_ald (pc := 9) (n := 572) hx hb (zAr_of (zK_int hK) (hP 1 (by decide))) (by omega) (by omega) (by decide) dX8_put_9 ?_
  refine zr_top (b := g i) (congrFun hM2.1 _) ?_
  refine lv_istore_n (pc := 10) (lv' := [(3, .int (zI (g i))), (0, .ref (am 0)), (1, .int (zI (i))), (2, .int (zI (v)))]) hx hb dX8_put_10 rfl hl (by decide) rfl (fun ls hl => ?_)
  refine lv_aload_n (pc := 11) hx hb dX8_put_11 rfl (lv_at hl 1 rfl) ?_
  refine zr_get (pc := 12) S hK (hP 0 (by decide)) rfl i_X8 1 (by decide) (List.mem_of_getElem? (i := 1) rfl) rfl dX8_put_12 ?_
  refine lv_iload_n (pc := 15) hx hb dX8_put_15 rfl (lv_at hl 2 rfl) ?_
  refine lv_iload_n (pc := 16) hx hb dX8_put_16 rfl (lv_at hl 3 rfl) ?_
  refine zr_ast (pc := 17) (k := 572) hx hb hK (hP 1 (by decide)) (by omega) (by omega) (by decide) hS (hAin 1 (by decide)) dX8_put_17 (fun H locs hO hz hk hS => ?_)
  have hP := zW.put hP hJ 1 (by decide) hO hk (mC_a 1 (by decide) _ _)
  refine lv_iload_n (pc := 18) hx hb dX8_put_18 rfl (lv_at hl 0 rfl) ?_
  exact W.iret (v := zI (g i)) hx hb hr (fun tz ht hW => ⟨⟨zI (g i), zI (g i), rfl, rfl, by dsimp only; rw [ht]; exact ⟨rfl, _, (mR_put hM2 i v), hP⟩⟩, hS.F ht⟩) hS.2.2 dX8_put_19
set_option maxHeartbeats 4000000 in
set_option maxRecDepth 100000 in
theorem ct_X8_addCostume (l : Launch) (D : va_G) (cI cT : ClassId) (sz : Nat) (am : Nat → Nat) (μ : Nat → Int → Int) (g : Int → Int) (n : Nat) (hs : Nat → Int → Int) (tl : Int) (tx : Int → Int) (hM : mR μ g n hs tl tx) (hI : Inv g) (hJ : zJ am 5) (a : Int) (b : Int) (c : Int) (d : Int) (e : Int) (r_a : -2147483648 ≤ a ∧ a ≤ 2147483647) (r_b : -2147483648 ≤ b ∧ b ≤ 2147483647) (r_c : -2147483648 ≤ c ∧ c ≤ 2147483647) (r_d : -2147483648 ≤ d ∧ d ≤ 2147483647) (r_e : -2147483648 ≤ e ∧ e ≤ 2147483647) : zMi l yX8_addCostume wsX8_addCostume ({ frames := 2, cells := 0, slots := 0, locals := 51 }) D cI cT [.ref (am 0), .int (zI (a)), .int (zI (b)), .int (zI (c)), .int (zI (d)), .int (zI (e))] sz (fun _ H => zW D am 5 (mC cI am μ) H) (fun rr H => ∃ (μ' : Nat → Int → Int) (g' : Int → Int) (n' : Nat) (hs' : Nat → Int → Int), mR μ' g' n' hs' tl tx ∧ oR (eAddC g a b c d e) (g 0) (mkC g a b c d e 0) g n hs g' n' hs' rr ∧ zW D am 5 (mC cI am μ') H) (zR am 5 sz) := by
  refine Met.ofW (cc := cX8_addCostume) (maxL := 6) (ret := (some .int)) (by decide) rfl ?_
  intro p_ e_ s m_ args below meth c_ s₁ B hml hv
  obtain ⟨rfl, hsz, hK, hF⟩ := hv
  have hx := B.exec
  have hb := B.bytes
  have hr := B.returns
  have hts := atoms_spec (ws := wsX8_addCostume) B.pre
  have hown : s.vm.findClass RX8 = some m_.cls := findClass_of_methodNamed B.named
  have hlocks := B.notSynchronized
  have S : CallFix p_ m_ c_ cX8_addCostume 6 s _ wsX8_addCostume RX8 := ⟨hx, hb, hml, hown, hts⟩
  have i_X8 : ∀ w ∈ u_ws RX8 TX8 12, w ∈ wsX8_addCostume := fun _ h => List.mem_cons_of_mem _ (List.mem_append_right _ h)
  subst hsz
  generalize hAe : (zR am 5 s.heap.size) = A
  have hAn : ∀ q : Nat, s.heap.size ≤ q → A q := fun q h => by rw [← hAe]; exact Or.inr h
  obtain ⟨H, hHe⟩ : ∃ H : Heap, H = s.heap := ⟨_, rfl⟩
  rw [← hHe] at hF ⊢
  have hS : va_S A s.heap H [] := by rw [hHe]; exact va_S.rf
  have hP := hF
  have hg := hM.1
  have hAin : ∀ k : Nat, k < 5 → A (am k) := fun k hk => by rw [← hAe]; exact Or.inl ⟨k, hk, rfl⟩
  have hnC := iv_nC hI
  have hl := lv_entry ([.ref (am 0), .int (zI (a)), .int (zI (b)), .int (zI (c)), .int (zI (d)), .int (zI (e))]) (n := 6) (Nat.le_of_ble_eq_true rfl)
  rw [lg_entry_eq]
  generalize (lg_sl ([.ref (am 0), .int (zI (a)), .int (zI (b)), .int (zI (c)), .int (zI (d)), .int (zI (e))]) ++ List.replicate (6 - (lg_sl ([.ref (am 0), .int (zI (a)), .int (zI (b)), .int (zI (c)), .int (zI (d)), .int (zI (e))])).length) Slot.unset).toArray = ls at hl ⊢
  have hl : lv_has ls 6 [(0, .ref (am 0)), (1, .int (zI (a))), (2, .int (zI (b))), (3, .int (zI (c))), (4, .int (zI (d))), (5, .int (zI (e)))] := hl
  refine lv_aload_n (pc := 0) hx hb dX8_addCostume_0 rfl (lv_at hl 0 rfl) ?_
  refine lv_iconst (pc := 1) (v := zI 0) hx hb dX8_addCostume_1 rfl ?_
  refine zr_put (pc := 2) S hK (hP 0 (by decide)) rfl i_X8 tyX8 tyX8_ok nmX8 0 (by decide) (List.mem_of_getElem? (i := 1) rfl) rfl rfl rfl (Nat.le_of_ble_eq_true rfl) hS (hAin 0 (by decide)) dX8_addCostume_2 (fun H locs hO hz hk hS => ?_)
  have hP := zW.put hP hJ 0 (by decide) hO hk (mC_0_0 0)
  refine lv_iload_n (pc := 5) hx hb dX8_addCostume_5 rfl (lv_at hl 1 rfl) ?_
  refine zr_si (pc := 6) (As := [.int (zI (a))]) (rest := []) S (ct_X8_isMeasure l D cI cT a (by omega)) (va_cwS 1 hts gX8_addCostume_X8_isMeasure rfl rfl rfl (by decide +kernel) ⟨Nat.le_of_ble_eq_true rfl, Nat.le_of_ble_eq_true rfl⟩) zs0 hK trivial rfl hl.1 rfl (Nat.le_of_ble_eq_true rfl) dX8_addCostume_6 ⟨Nat.le_of_ble_eq_true rfl, Nat.le_of_ble_eq_true rfl⟩ (fun r_6 hr_6 => ?_)
  rcases hr_6 with ⟨hb_6, rfl⟩ | ⟨hb_6, rfl⟩
  · refine zr_if_eq (pc := 9) (tgt := 52) hx hb dX8_addCostume_9 (by decide) (by decide) (fun z => absurd z (by decide)) (fun _ => ?_)
    refine lv_iload_n (pc := 12) hx hb dX8_addCostume_12 rfl (lv_at hl 2 rfl) ?_
    refine zr_si (pc := 13) (As := [.int (zI (b))]) (rest := []) S (ct_X8_isMeasure l D cI cT b (by omega)) (va_cwS 1 hts gX8_addCostume_X8_isMeasure rfl rfl rfl (by decide +kernel) ⟨Nat.le_of_ble_eq_true rfl, Nat.le_of_ble_eq_true rfl⟩) zs0 hK trivial rfl hl.1 rfl (Nat.le_of_ble_eq_true rfl) dX8_addCostume_13 ⟨Nat.le_of_ble_eq_true rfl, Nat.le_of_ble_eq_true rfl⟩ (fun r_13 hr_13 => ?_)
    rcases hr_13 with ⟨hb_13, rfl⟩ | ⟨hb_13, rfl⟩
    · refine zr_if_eq (pc := 16) (tgt := 52) hx hb dX8_addCostume_16 (by decide) (by decide) (fun z => absurd z (by decide)) (fun _ => ?_)
      refine lv_iload_n (pc := 19) hx hb dX8_addCostume_19 rfl (lv_at hl 3 rfl) ?_
      refine zr_si (pc := 20) (As := [.int (zI (c))]) (rest := []) S (ct_X8_isMeasure l D cI cT c (by omega)) (va_cwS 1 hts gX8_addCostume_X8_isMeasure rfl rfl rfl (by decide +kernel) ⟨Nat.le_of_ble_eq_true rfl, Nat.le_of_ble_eq_true rfl⟩) zs0 hK trivial rfl hl.1 rfl (Nat.le_of_ble_eq_true rfl) dX8_addCostume_20 ⟨Nat.le_of_ble_eq_true rfl, Nat.le_of_ble_eq_true rfl⟩ (fun r_20 hr_20 => ?_)
      rcases hr_20 with ⟨hb_20, rfl⟩ | ⟨hb_20, rfl⟩
      · refine zr_if_eq (pc := 23) (tgt := 52) hx hb dX8_addCostume_23 (by decide) (by decide) (fun z => absurd z (by decide)) (fun _ => ?_)
        refine lv_iload (pc := 26) hx hb dX8_addCostume_26 (lv_at hl 4 rfl) ?_
        refine zr_i2l (pc := 28) hx hb dX8_addCostume_28 (by omega) ?_
        refine lv_lconst (pc := 29) (v := zL 0) hx hb dX8_addCostume_29 rfl ?_
        refine zr_ldc2 (pc := 30) (w := 8) hx hb hown (hts _ (List.mem_of_getElem? (i := 2) rfl)) dX8_addCostume_30 (by decide +kernel) ?_
        refine zr_si (pc := 33) (As := [.long (zL (d)), .long (zL (0)), .long (zL (8))]) (rest := []) S (ct_X8_in l D cI cT d 0 8 (by omega) (by decide) (by decide)) (va_cwS 3 hts gX8_addCostume_X8_in rfl rfl rfl (by decide +kernel) ⟨Nat.le_of_ble_eq_true rfl, Nat.le_of_ble_eq_true rfl⟩) zs0 hK trivial rfl hl.1 rfl (Nat.le_of_ble_eq_true rfl) dX8_addCostume_33 ⟨Nat.le_of_ble_eq_true rfl, Nat.le_of_ble_eq_true rfl⟩ (fun r_33 hr_33 => ?_)
        rcases hr_33 with ⟨hb_33, rfl⟩ | ⟨hb_33, rfl⟩
        · refine zr_if_eq (pc := 36) (tgt := 52) hx hb dX8_addCostume_36 (by decide) (by decide) (fun z => absurd z (by decide)) (fun _ => ?_)
          refine lv_iload (pc := 39) hx hb dX8_addCostume_39 (lv_at hl 5 rfl) ?_
          refine zr_i2l (pc := 41) hx hb dX8_addCostume_41 (by omega) ?_
          refine lv_lconst (pc := 42) (v := zL 0) hx hb dX8_addCostume_42 rfl ?_
          refine zr_ldc2 (pc := 43) (w := 3) hx hb hown (hts _ (List.mem_of_getElem? (i := 3) rfl)) dX8_addCostume_43 (by decide +kernel) ?_
          refine zr_si (pc := 46) (As := [.long (zL (e)), .long (zL (0)), .long (zL (3))]) (rest := []) S (ct_X8_in l D cI cT e 0 3 (by omega) (by decide) (by decide)) (va_cwS 3 hts gX8_addCostume_X8_in rfl rfl rfl (by decide +kernel) ⟨Nat.le_of_ble_eq_true rfl, Nat.le_of_ble_eq_true rfl⟩) zs0 hK trivial rfl hl.1 rfl (Nat.le_of_ble_eq_true rfl) dX8_addCostume_46 ⟨Nat.le_of_ble_eq_true rfl, Nat.le_of_ble_eq_true rfl⟩ (fun r_46 hr_46 => ?_)
          rcases hr_46 with ⟨hb_46, rfl⟩ | ⟨hb_46, rfl⟩
          · refine zr_if_ne (pc := 49) (tgt := 56) hx hb dX8_addCostume_49 (by decide) (by decide) (fun _ => ?_) (fun z => absurd z (by decide))
            refine lv_aload_n (pc := 56) hx hb dX8_addCostume_56 rfl (lv_at hl 0 rfl) ?_
            refine zr_get (pc := 57) S hK (hP 0 (by decide)) rfl i_X8 1 (by decide) (List.mem_of_getElem? (i := 4) rfl) rfl dX8_addCostume_57 ?_
            refine lv_iconst (pc := 60) (v := zI 0) hx hb dX8_addCostume_60 rfl ?_
            refine zr_ald (pc := 61) (n := 572) hx hb (zAr_of (zK_int hK) (hP 1 (by decide))) (by decide) (by decide) (by decide) dX8_addCostume_61 ?_
            refine zr_top (b := g 0) (congrFun ((su_ne (by decide) _ _).trans hg) _) ?_
            refine lv_bipush (pc := 62) (v := zI 16) hx hb dX8_addCostume_62 zc_bipush_16 ?_
            refine zr_icmp_ne (pc := 64) (tgt := 71) hx hb dX8_addCostume_64 (by decide) (by omega) (by decide) (fun c_64 => ?_) (fun c_64 => ?_)
            · refine lv_aload_n (pc := 71) hx hb dX8_addCostume_71 rfl (lv_at hl 0 rfl) ?_
              refine zr_vwv (pc := 72) (As := []) (rest := []) S (ct_X8_act l D cI cT H.size am ((su μ 0 0 0)) g n hs tl tx (mR_sc hM 0 0 (by decide) (by decide)) hI hJ) (cwV 0 hts gX8_addCostume_X8_act rfl rfl rfl (by decide +kernel) ⟨Nat.le_of_ble_eq_true rfl, Nat.le_of_ble_eq_true rfl⟩) zs0 hK hP (zr_recv hK (hP 0 (by decide)) rfl) hS (fun q h => h.elim (fun ⟨k, k0, e⟩ => by rw [e]; exact hAin k k0) (fun z => hAn q (Nat.le_trans hS.1 z))) rfl hl.1 rfl (Nat.le_of_ble_eq_true rfl) dX8_addCostume_72 ⟨Nat.le_of_ble_eq_true rfl, Nat.le_of_ble_eq_true rfl⟩ (fun H locs hG hz hk hS => ?_)
              obtain ⟨μ3, ha3, hM3, hP⟩ := hG
              refine lv_aload_n (pc := 75) hx hb dX8_addCostume_75 rfl (lv_at hl 0 rfl) ?_
              refine lv_iload_n (pc := 76) hx hb dX8_addCostume_76 rfl (lv_at hl 1 rfl) ?_
              refine lv_iload_n (pc := 77) hx hb dX8_addCostume_77 rfl (lv_at hl 2 rfl) ?_
              refine lv_iload_n (pc := 78) hx hb dX8_addCostume_78 rfl (lv_at hl 3 rfl) ?_
              refine lv_iload (pc := 79) hx hb dX8_addCostume_79 (lv_at hl 4 rfl) ?_
              refine lv_iload (pc := 81) hx hb dX8_addCostume_81 (lv_at hl 5 rfl) ?_
              refine lv_iconst (pc := 83) (v := zI 0) hx hb dX8_addCostume_83 rfl ?_
              refine zr_vwi (pc := 84) (As := [.int (zI (a)), .int (zI (b)), .int (zI (c)), .int (zI (d)), .int (zI (e)), .int (zI (0))]) (rest := []) S (ct_X8_makeCostume l D cI cT H.size am μ3 g hM3.1 hJ a b c d e 0 (by omega) (by omega)) (cwV 6 hts gX8_addCostume_X8_makeCostume rfl rfl rfl (by decide +kernel) ⟨Nat.le_of_ble_eq_true rfl, Nat.le_of_ble_eq_true rfl⟩) zs0 hK hP (zr_recv hK (hP 0 (by decide)) rfl) hS (fun q h => h.elim (fun ⟨k, k0, e⟩ => by rw [e]; exact hAin k k0) (fun z => hAn q (Nat.le_trans hS.1 z))) rfl hl.1 rfl (Nat.le_of_ble_eq_true rfl) dX8_addCostume_84 ⟨Nat.le_of_ble_eq_true rfl, Nat.le_of_ble_eq_true rfl⟩ (fun r_84 H locs hG hz hk hS => ?_)
              obtain ⟨rfl, hP⟩ := hG
              exact W.iret (v := zI (g 0)) hx hb hr (fun tz ht hW => ⟨⟨zI (g 0), zI (g 0), rfl, rfl, by dsimp only; rw [ht]; exact ⟨_, _, _, _, (mR_g hM3 _), oR_ok ((tft (by omega)).trans (tft (by omega))) (rfl) (rfl), hP⟩⟩, hS.F ht⟩) hS.2.2 dX8_addCostume_87
            · refine lv_sipush (pc := 67) (v := zI (-2003)) hx hb dX8_addCostume_67 zc_sipush_m2003 ?_
              exact W.iret (v := zI ((-2003))) hx hb hr (fun tz ht hW => ⟨⟨zI ((-2003)), zI ((-2003)), rfl, rfl, by dsimp only; rw [ht]; exact ⟨_, _, _, _, (mR_sc hM 0 0 (by decide) (by decide)), oR_no ((tft (by omega)).trans (tff (by omega))) (by decide), hP⟩⟩, hS.F ht⟩) hS.2.2 dX8_addCostume_70
          · refine zr_if_ne (pc := 49) (tgt := 56) hx hb dX8_addCostume_49 (by decide) (by decide) (fun z => absurd z (by decide)) (fun _ => ?_)
            refine lv_sipush (pc := 52) (v := zI (-2001)) hx hb dX8_addCostume_52 zc_sipush_m2001 ?_
            exact W.iret (v := zI ((-2001))) hx hb hr (fun tz ht hW => ⟨⟨zI ((-2001)), zI ((-2001)), rfl, rfl, by dsimp only; rw [ht]; exact ⟨_, _, _, _, (mR_sc hM 0 0 (by decide) (by decide)), oR_no (tff (fun q => by omega)) (by decide), hP⟩⟩, hS.F ht⟩) hS.2.2 dX8_addCostume_55
        · refine zr_if_eq (pc := 36) (tgt := 52) hx hb dX8_addCostume_36 (by decide) (by decide) (fun _ => ?_) (fun z => absurd z (by decide))
          refine lv_sipush (pc := 52) (v := zI (-2001)) hx hb dX8_addCostume_52 zc_sipush_m2001 ?_
          exact W.iret (v := zI ((-2001))) hx hb hr (fun tz ht hW => ⟨⟨zI ((-2001)), zI ((-2001)), rfl, rfl, by dsimp only; rw [ht]; exact ⟨_, _, _, _, (mR_sc hM 0 0 (by decide) (by decide)), oR_no (tff (fun q => by omega)) (by decide), hP⟩⟩, hS.F ht⟩) hS.2.2 dX8_addCostume_55
      · refine zr_if_eq (pc := 23) (tgt := 52) hx hb dX8_addCostume_23 (by decide) (by decide) (fun _ => ?_) (fun z => absurd z (by decide))
        refine lv_sipush (pc := 52) (v := zI (-2001)) hx hb dX8_addCostume_52 zc_sipush_m2001 ?_
        exact W.iret (v := zI ((-2001))) hx hb hr (fun tz ht hW => ⟨⟨zI ((-2001)), zI ((-2001)), rfl, rfl, by dsimp only; rw [ht]; exact ⟨_, _, _, _, (mR_sc hM 0 0 (by decide) (by decide)), oR_no (tff (fun q => by omega)) (by decide), hP⟩⟩, hS.F ht⟩) hS.2.2 dX8_addCostume_55
    · refine zr_if_eq (pc := 16) (tgt := 52) hx hb dX8_addCostume_16 (by decide) (by decide) (fun _ => ?_) (fun z => absurd z (by decide))
      refine lv_sipush (pc := 52) (v := zI (-2001)) hx hb dX8_addCostume_52 zc_sipush_m2001 ?_
      exact W.iret (v := zI ((-2001))) hx hb hr (fun tz ht hW => ⟨⟨zI ((-2001)), zI ((-2001)), rfl, rfl, by dsimp only; rw [ht]; exact ⟨_, _, _, _, (mR_sc hM 0 0 (by decide) (by decide)), oR_no (tff (fun q => by omega)) (by decide), hP⟩⟩, hS.F ht⟩) hS.2.2 dX8_addCostume_55
  · refine zr_if_eq (pc := 9) (tgt := 52) hx hb dX8_addCostume_9 (by decide) (by decide) (fun _ => ?_) (fun z => absurd z (by decide))
    refine lv_sipush (pc := 52) (v := zI (-2001)) hx hb dX8_addCostume_52 zc_sipush_m2001 ?_
    exact W.iret (v := zI ((-2001))) hx hb hr (fun tz ht hW => ⟨⟨zI ((-2001)), zI ((-2001)), rfl, rfl, by dsimp only; rw [ht]; exact ⟨_, _, _, _, (mR_sc hM 0 0 (by decide) (by decide)), oR_no (tff (fun q => by omega)) (by decide), hP⟩⟩, hS.F ht⟩) hS.2.2 dX8_addCostume_55
set_option maxHeartbeats 4000000 in
set_option maxRecDepth 100000 in
theorem ct_X8_addActor (l : Launch) (D : va_G) (cI cT : ClassId) (sz : Nat) (am : Nat → Nat) (μ : Nat → Int → Int) (g : Int → Int) (n : Nat) (hs : Nat → Int → Int) (tl : Int) (tx : Int → Int) (hM : mR μ g n hs tl tx) (hI : Inv g) (hJ : zJ am 5) (a : Int) (b : Int) (c : Int) (r_a : -2147483648 ≤ a ∧ a ≤ 2147483647) (r_b : -2147483648 ≤ b ∧ b ≤ 2147483647) (r_c : -2147483648 ≤ c ∧ c ≤ 2147483647) : zMi l yX8_addActor wsX8_addActor ({ frames := 2, cells := 0, slots := 0, locals := 45 }) D cI cT [.ref (am 0), .int (zI (a)), .int (zI (b)), .int (zI (c))] sz (fun _ H => zW D am 5 (mC cI am μ) H) (fun rr H => ∃ (μ' : Nat → Int → Int) (g' : Int → Int) (n' : Nat) (hs' : Nat → Int → Int), mR μ' g' n' hs' tl tx ∧ oR (eAddA g a b c) (g 1) (mkA g a b c) g n hs g' n' hs' rr ∧ zW D am 5 (mC cI am μ') H) (zR am 5 sz) := by
  refine Met.ofW (cc := cX8_addActor) (maxL := 4) (ret := (some .int)) (by decide) rfl ?_
  intro p_ e_ s m_ args below meth c_ s₁ B hml hv
  obtain ⟨rfl, hsz, hK, hF⟩ := hv
  have hx := B.exec
  have hb := B.bytes
  have hr := B.returns
  have hts := atoms_spec (ws := wsX8_addActor) B.pre
  have hown : s.vm.findClass RX8 = some m_.cls := findClass_of_methodNamed B.named
  have hlocks := B.notSynchronized
  have S : CallFix p_ m_ c_ cX8_addActor 4 s _ wsX8_addActor RX8 := ⟨hx, hb, hml, hown, hts⟩
  have i_X8 : ∀ w ∈ u_ws RX8 TX8 12, w ∈ wsX8_addActor := fun _ h => List.mem_cons_of_mem _ (List.mem_append_right _ h)
  subst hsz
  generalize hAe : (zR am 5 s.heap.size) = A
  have hAn : ∀ q : Nat, s.heap.size ≤ q → A q := fun q h => by rw [← hAe]; exact Or.inr h
  obtain ⟨H, hHe⟩ : ∃ H : Heap, H = s.heap := ⟨_, rfl⟩
  rw [← hHe] at hF ⊢
  have hS : va_S A s.heap H [] := by rw [hHe]; exact va_S.rf
  have hP := hF
  have hg := hM.1
  have hAin : ∀ k : Nat, k < 5 → A (am k) := fun k hk => by rw [← hAe]; exact Or.inl ⟨k, hk, rfl⟩
  have hnA := iv_nA hI
  have hl := lv_entry ([.ref (am 0), .int (zI (a)), .int (zI (b)), .int (zI (c))]) (n := 4) (Nat.le_of_ble_eq_true rfl)
  rw [lg_entry_eq]
  generalize (lg_sl ([.ref (am 0), .int (zI (a)), .int (zI (b)), .int (zI (c))]) ++ List.replicate (4 - (lg_sl ([.ref (am 0), .int (zI (a)), .int (zI (b)), .int (zI (c))])).length) Slot.unset).toArray = ls at hl ⊢
  have hl : lv_has ls 4 [(0, .ref (am 0)), (1, .int (zI (a))), (2, .int (zI (b))), (3, .int (zI (c)))] := hl
  refine lv_aload_n (pc := 0) hx hb dX8_addActor_0 rfl (lv_at hl 0 rfl) ?_
  refine lv_iconst (pc := 1) (v := zI 0) hx hb dX8_addActor_1 rfl ?_
  refine zr_put (pc := 2) S hK (hP 0 (by decide)) rfl i_X8 tyX8 tyX8_ok nmX8 0 (by decide) (List.mem_of_getElem? (i := 1) rfl) rfl rfl rfl (Nat.le_of_ble_eq_true rfl) hS (hAin 0 (by decide)) dX8_addActor_2 (fun H locs hO hz hk hS => ?_)
  have hP := zW.put hP hJ 0 (by decide) hO hk (mC_0_0 0)
  refine lv_iload_n (pc := 5) hx hb dX8_addActor_5 rfl (lv_at hl 1 rfl) ?_
  refine zr_si (pc := 6) (As := [.int (zI (a))]) (rest := []) S (ct_X8_isMeasure l D cI cT a (by omega)) (va_cwS 1 hts gX8_addActor_X8_isMeasure rfl rfl rfl (by decide +kernel) ⟨Nat.le_of_ble_eq_true rfl, Nat.le_of_ble_eq_true rfl⟩) zs0 hK trivial rfl hl.1 rfl (Nat.le_of_ble_eq_true rfl) dX8_addActor_6 ⟨Nat.le_of_ble_eq_true rfl, Nat.le_of_ble_eq_true rfl⟩ (fun r_6 hr_6 => ?_)
  rcases hr_6 with ⟨hb_6, rfl⟩ | ⟨hb_6, rfl⟩
  · refine zr_if_eq (pc := 9) (tgt := 26) hx hb dX8_addActor_9 (by decide) (by decide) (fun z => absurd z (by decide)) (fun _ => ?_)
    refine lv_iload_n (pc := 12) hx hb dX8_addActor_12 rfl (lv_at hl 2 rfl) ?_
    refine zr_si (pc := 13) (As := [.int (zI (b))]) (rest := []) S (ct_X8_isMeasure l D cI cT b (by omega)) (va_cwS 1 hts gX8_addActor_X8_isMeasure rfl rfl rfl (by decide +kernel) ⟨Nat.le_of_ble_eq_true rfl, Nat.le_of_ble_eq_true rfl⟩) zs0 hK trivial rfl hl.1 rfl (Nat.le_of_ble_eq_true rfl) dX8_addActor_13 ⟨Nat.le_of_ble_eq_true rfl, Nat.le_of_ble_eq_true rfl⟩ (fun r_13 hr_13 => ?_)
    rcases hr_13 with ⟨hb_13, rfl⟩ | ⟨hb_13, rfl⟩
    · refine zr_if_eq (pc := 16) (tgt := 26) hx hb dX8_addActor_16 (by decide) (by decide) (fun z => absurd z (by decide)) (fun _ => ?_)
      refine lv_iload_n (pc := 19) hx hb dX8_addActor_19 rfl (lv_at hl 3 rfl) ?_
      refine zr_si (pc := 20) (As := [.int (zI (c))]) (rest := []) S (ct_X8_isMeasure l D cI cT c (by omega)) (va_cwS 1 hts gX8_addActor_X8_isMeasure rfl rfl rfl (by decide +kernel) ⟨Nat.le_of_ble_eq_true rfl, Nat.le_of_ble_eq_true rfl⟩) zs0 hK trivial rfl hl.1 rfl (Nat.le_of_ble_eq_true rfl) dX8_addActor_20 ⟨Nat.le_of_ble_eq_true rfl, Nat.le_of_ble_eq_true rfl⟩ (fun r_20 hr_20 => ?_)
      rcases hr_20 with ⟨hb_20, rfl⟩ | ⟨hb_20, rfl⟩
      · refine zr_if_ne (pc := 23) (tgt := 30) hx hb dX8_addActor_23 (by decide) (by decide) (fun _ => ?_) (fun z => absurd z (by decide))
        refine lv_aload_n (pc := 30) hx hb dX8_addActor_30 rfl (lv_at hl 0 rfl) ?_
        refine zr_get (pc := 31) S hK (hP 0 (by decide)) rfl i_X8 1 (by decide) (List.mem_of_getElem? (i := 2) rfl) rfl dX8_addActor_31 ?_
        refine lv_iconst (pc := 34) (v := zI 1) hx hb dX8_addActor_34 rfl ?_
        refine zr_ald (pc := 35) (n := 572) hx hb (zAr_of (zK_int hK) (hP 1 (by decide))) (by decide) (by decide) (by decide) dX8_addActor_35 ?_
        refine zr_top (b := g 1) (congrFun ((su_ne (by decide) _ _).trans hg) _) ?_
        refine lv_bipush (pc := 36) (v := zI 8) hx hb dX8_addActor_36 zc_bipush_8 ?_
        refine zr_icmp_ne (pc := 38) (tgt := 45) hx hb dX8_addActor_38 (by decide) (by omega) (by decide) (fun c_38 => ?_) (fun c_38 => ?_)
        · refine lv_aload_n (pc := 45) hx hb dX8_addActor_45 rfl (lv_at hl 0 rfl) ?_
          refine zr_vwv (pc := 46) (As := []) (rest := []) S (ct_X8_act l D cI cT H.size am ((su μ 0 0 0)) g n hs tl tx (mR_sc hM 0 0 (by decide) (by decide)) hI hJ) (cwV 0 hts gX8_addActor_X8_act rfl rfl rfl (by decide +kernel) ⟨Nat.le_of_ble_eq_true rfl, Nat.le_of_ble_eq_true rfl⟩) zs0 hK hP (zr_recv hK (hP 0 (by decide)) rfl) hS (fun q h => h.elim (fun ⟨k, k0, e⟩ => by rw [e]; exact hAin k k0) (fun z => hAn q (Nat.le_trans hS.1 z))) rfl hl.1 rfl (Nat.le_of_ble_eq_true rfl) dX8_addActor_46 ⟨Nat.le_of_ble_eq_true rfl, Nat.le_of_ble_eq_true rfl⟩ (fun H locs hG hz hk hS => ?_)
          obtain ⟨μ4, ha4, hM4, hP⟩ := hG
          refine lv_aload_n (pc := 49) hx hb dX8_addActor_49 rfl (lv_at hl 0 rfl) ?_
          refine lv_iload_n (pc := 50) hx hb dX8_addActor_50 rfl (lv_at hl 1 rfl) ?_
          refine lv_iload_n (pc := 51) hx hb dX8_addActor_51 rfl (lv_at hl 2 rfl) ?_
          refine lv_iload_n (pc := 52) hx hb dX8_addActor_52 rfl (lv_at hl 3 rfl) ?_
          refine zr_vwi (pc := 53) (As := [.int (zI (a)), .int (zI (b)), .int (zI (c))]) (rest := []) S (ct_X8_makeActor l D cI cT H.size am μ4 g hM4.1 hJ a b c (by omega) (by omega)) (cwV 3 hts gX8_addActor_X8_makeActor rfl rfl rfl (by decide +kernel) ⟨Nat.le_of_ble_eq_true rfl, Nat.le_of_ble_eq_true rfl⟩) zs0 hK hP (zr_recv hK (hP 0 (by decide)) rfl) hS (fun q h => h.elim (fun ⟨k, k0, e⟩ => by rw [e]; exact hAin k k0) (fun z => hAn q (Nat.le_trans hS.1 z))) rfl hl.1 rfl (Nat.le_of_ble_eq_true rfl) dX8_addActor_53 ⟨Nat.le_of_ble_eq_true rfl, Nat.le_of_ble_eq_true rfl⟩ (fun r_53 H locs hG hz hk hS => ?_)
          obtain ⟨rfl, hP⟩ := hG
          exact W.iret (v := zI (g 1)) hx hb hr (fun tz ht hW => ⟨⟨zI (g 1), zI (g 1), rfl, rfl, by dsimp only; rw [ht]; exact ⟨_, _, _, _, (mR_g hM4 _), oR_ok ((tft (by omega)).trans (tft (by omega))) (rfl) (rfl), hP⟩⟩, hS.F ht⟩) hS.2.2 dX8_addActor_56
        · refine lv_sipush (pc := 41) (v := zI (-2003)) hx hb dX8_addActor_41 zc_sipush_m2003 ?_
          exact W.iret (v := zI ((-2003))) hx hb hr (fun tz ht hW => ⟨⟨zI ((-2003)), zI ((-2003)), rfl, rfl, by dsimp only; rw [ht]; exact ⟨_, _, _, _, (mR_sc hM 0 0 (by decide) (by decide)), oR_no ((tft (by omega)).trans (tff (by omega))) (by decide), hP⟩⟩, hS.F ht⟩) hS.2.2 dX8_addActor_44
      · refine zr_if_ne (pc := 23) (tgt := 30) hx hb dX8_addActor_23 (by decide) (by decide) (fun z => absurd z (by decide)) (fun _ => ?_)
        refine lv_sipush (pc := 26) (v := zI (-2001)) hx hb dX8_addActor_26 zc_sipush_m2001 ?_
        exact W.iret (v := zI ((-2001))) hx hb hr (fun tz ht hW => ⟨⟨zI ((-2001)), zI ((-2001)), rfl, rfl, by dsimp only; rw [ht]; exact ⟨_, _, _, _, (mR_sc hM 0 0 (by decide) (by decide)), oR_no (tff (fun q => by omega)) (by decide), hP⟩⟩, hS.F ht⟩) hS.2.2 dX8_addActor_29
    · refine zr_if_eq (pc := 16) (tgt := 26) hx hb dX8_addActor_16 (by decide) (by decide) (fun _ => ?_) (fun z => absurd z (by decide))
      refine lv_sipush (pc := 26) (v := zI (-2001)) hx hb dX8_addActor_26 zc_sipush_m2001 ?_
      exact W.iret (v := zI ((-2001))) hx hb hr (fun tz ht hW => ⟨⟨zI ((-2001)), zI ((-2001)), rfl, rfl, by dsimp only; rw [ht]; exact ⟨_, _, _, _, (mR_sc hM 0 0 (by decide) (by decide)), oR_no (tff (fun q => by omega)) (by decide), hP⟩⟩, hS.F ht⟩) hS.2.2 dX8_addActor_29
  · refine zr_if_eq (pc := 9) (tgt := 26) hx hb dX8_addActor_9 (by decide) (by decide) (fun _ => ?_) (fun z => absurd z (by decide))
    refine lv_sipush (pc := 26) (v := zI (-2001)) hx hb dX8_addActor_26 zc_sipush_m2001 ?_
    exact W.iret (v := zI ((-2001))) hx hb hr (fun tz ht hW => ⟨⟨zI ((-2001)), zI ((-2001)), rfl, rfl, by dsimp only; rw [ht]; exact ⟨_, _, _, _, (mR_sc hM 0 0 (by decide) (by decide)), oR_no (tff (fun q => by omega)) (by decide), hP⟩⟩, hS.F ht⟩) hS.2.2 dX8_addActor_29
set_option maxHeartbeats 4000000 in
set_option maxRecDepth 100000 in
theorem ct_X8_setColor (l : Launch) (D : va_G) (cI cT : ClassId) (sz : Nat) (am : Nat → Nat) (μ : Nat → Int → Int) (g : Int → Int) (n : Nat) (hs : Nat → Int → Int) (tl : Int) (tx : Int → Int) (hM : mR μ g n hs tl tx) (hI : Inv g) (hJ : zJ am 5) (c : Int) (v : Int) (r_c : -2147483648 ≤ c ∧ c ≤ 2147483647) (r_v : -2147483648 ≤ v ∧ v ≤ 2147483647) : zMi l yX8_setColor wsX8_setColor ({ frames := 2, cells := 0, slots := 0, locals := 46 }) D cI cT [.ref (am 0), .int (zI (c)), .int (zI (v))] sz (fun _ H => zW D am 5 (mC cI am μ) H) (fun rr H => ∃ (μ' : Nat → Int → Int) (g' : Int → Int) (n' : Nat) (hs' : Nat → Int → Int), mR μ' g' n' hs' tl tx ∧ oR (eCol g c v) (gC g c 5) (zu g (12 + 20 * c + 5) v) g n hs g' n' hs' rr ∧ zW D am 5 (mC cI am μ') H) (zR am 5 sz) := by
  refine Met.ofW (cc := cX8_setColor) (maxL := 3) (ret := (some .int)) (by decide) rfl ?_
  intro p_ e_ s m_ args below meth c_ s₁ B hml hv
  obtain ⟨rfl, hsz, hK, hF⟩ := hv
  have hx := B.exec
  have hb := B.bytes
  have hr := B.returns
  have hts := atoms_spec (ws := wsX8_setColor) B.pre
  have hown : s.vm.findClass RX8 = some m_.cls := findClass_of_methodNamed B.named
  have hlocks := B.notSynchronized
  have S : CallFix p_ m_ c_ cX8_setColor 3 s _ wsX8_setColor RX8 := ⟨hx, hb, hml, hown, hts⟩
  have i_X8 : ∀ w ∈ u_ws RX8 TX8 12, w ∈ wsX8_setColor := fun _ h => List.mem_cons_of_mem _ (List.mem_append_right _ h)
  subst hsz
  generalize hAe : (zR am 5 s.heap.size) = A
  have hAn : ∀ q : Nat, s.heap.size ≤ q → A q := fun q h => by rw [← hAe]; exact Or.inr h
  obtain ⟨H, hHe⟩ : ∃ H : Heap, H = s.heap := ⟨_, rfl⟩
  rw [← hHe] at hF ⊢
  have hS : va_S A s.heap H [] := by rw [hHe]; exact va_S.rf
  have hP := hF
  have hg := hM.1
  have hAin : ∀ k : Nat, k < 5 → A (am k) := fun k hk => by rw [← hAe]; exact Or.inl ⟨k, hk, rfl⟩
  have hnC := iv_nC hI
  have hl := lv_entry ([.ref (am 0), .int (zI (c)), .int (zI (v))]) (n := 3) (Nat.le_of_ble_eq_true rfl)
  rw [lg_entry_eq]
  generalize (lg_sl ([.ref (am 0), .int (zI (c)), .int (zI (v))]) ++ List.replicate (3 - (lg_sl ([.ref (am 0), .int (zI (c)), .int (zI (v))])).length) Slot.unset).toArray = ls at hl ⊢
  have hl : lv_has ls 3 [(0, .ref (am 0)), (1, .int (zI (c))), (2, .int (zI (v)))] := hl
  refine lv_aload_n (pc := 0) hx hb dX8_setColor_0 rfl (lv_at hl 0 rfl) ?_
  refine lv_iconst (pc := 1) (v := zI 0) hx hb dX8_setColor_1 rfl ?_
  refine zr_put (pc := 2) S hK (hP 0 (by decide)) rfl i_X8 tyX8 tyX8_ok nmX8 0 (by decide) (List.mem_of_getElem? (i := 1) rfl) rfl rfl rfl (Nat.le_of_ble_eq_true rfl) hS (hAin 0 (by decide)) dX8_setColor_2 (fun H locs hO hz hk hS => ?_)
  have hP := zW.put hP hJ 0 (by decide) hO hk (mC_0_0 0)
  refine lv_aload_n (pc := 5) hx hb dX8_setColor_5 rfl (lv_at hl 0 rfl) ?_
  refine lv_iload_n (pc := 6) hx hb dX8_setColor_6 rfl (lv_at hl 1 rfl) ?_
  refine zr_vi (pc := 7) (As := [.int (zI (c))]) (rest := []) S (ct_X8_isCostume l D cI cT am ((su μ 0 0 0)) g (((su_ne (by decide) _ _).trans hg)) hI c (by omega)) (cwV 1 hts gX8_setColor_X8_isCostume rfl rfl rfl (by decide +kernel) ⟨Nat.le_of_ble_eq_true rfl, Nat.le_of_ble_eq_true rfl⟩) zs0 hK hP (zr_recv hK (hP 0 (by decide)) rfl) rfl hl.1 rfl (Nat.le_of_ble_eq_true rfl) dX8_setColor_7 ⟨Nat.le_of_ble_eq_true rfl, Nat.le_of_ble_eq_true rfl⟩ (fun r_7 hr_7 => ?_)
  rcases hr_7 with ⟨hb_7, rfl⟩ | ⟨hb_7, rfl⟩
  · refine zr_if_eq (pc := 10) (tgt := 40) hx hb dX8_setColor_10 (by decide) (by decide) (fun z => absurd z (by decide)) (fun _ => ?_)
    refine lv_iload_n (pc := 13) hx hb dX8_setColor_13 rfl (lv_at hl 2 rfl) ?_
    refine zr_i2l (pc := 14) hx hb dX8_setColor_14 (by omega) ?_
    refine lv_lconst (pc := 15) (v := zL 0) hx hb dX8_setColor_15 rfl ?_
    refine lv_lconst (pc := 16) (v := zL 1) hx hb dX8_setColor_16 rfl ?_
    refine zr_si (pc := 17) (As := [.long (zL (v)), .long (zL (0)), .long (zL (1))]) (rest := []) S (ct_X8_in l D cI cT v 0 1 (by omega) (by decide) (by decide)) (va_cwS 3 hts gX8_setColor_X8_in rfl rfl rfl (by decide +kernel) ⟨Nat.le_of_ble_eq_true rfl, Nat.le_of_ble_eq_true rfl⟩) zs0 hK trivial rfl hl.1 rfl (Nat.le_of_ble_eq_true rfl) dX8_setColor_17 ⟨Nat.le_of_ble_eq_true rfl, Nat.le_of_ble_eq_true rfl⟩ (fun r_17 hr_17 => ?_)
    rcases hr_17 with ⟨hb_17, rfl⟩ | ⟨hb_17, rfl⟩
    · refine zr_if_eq (pc := 20) (tgt := 40) hx hb dX8_setColor_20 (by decide) (by decide) (fun z => absurd z (by decide)) (fun _ => ?_)
      refine lv_aload_n (pc := 23) hx hb dX8_setColor_23 rfl (lv_at hl 0 rfl) ?_
      refine lv_bipush (pc := 24) (v := zI 12) hx hb dX8_setColor_24 zc_bipush_12 ?_
      refine lv_bipush (pc := 26) (v := zI 20) hx hb dX8_setColor_26 zc_bipush_20 ?_
      refine lv_iload_n (pc := 28) hx hb dX8_setColor_28 rfl (lv_at hl 1 rfl) ?_
      refine zr_imul (pc := 29) (d := 20 * c) hx hb dX8_setColor_29 rfl ?_
      refine zr_iadd (pc := 30) (d := 12 + (20 * c)) hx hb dX8_setColor_30 rfl ?_
      refine lv_iconst (pc := 31) (v := zI 5) hx hb dX8_setColor_31 rfl ?_
      refine zr_iadd (pc := 32) (d := (12 + (20 * c)) + 5) hx hb dX8_setColor_32 rfl ?_
      refine lv_iload_n (pc := 33) hx hb dX8_setColor_33 rfl (lv_at hl 2 rfl) ?_
      refine zr_vwi (pc := 34) (As := [.int (zI ((12 + (20 * c)) + 5)), .int (zI (v))]) (rest := []) S (ct_X8_put l D cI cT H.size am ((su μ 0 0 0)) g n hs tl tx (mR_sc hM 0 0 (by decide) (by decide)) hI hJ ((12 + (20 * c)) + 5) v (by omega) (by omega)) (cwV 2 hts gX8_setColor_X8_put rfl rfl rfl (by decide +kernel) ⟨Nat.le_of_ble_eq_true rfl, Nat.le_of_ble_eq_true rfl⟩) zs0 hK hP (zr_recv hK (hP 0 (by decide)) rfl) hS (fun q h => h.elim (fun ⟨k, k0, e⟩ => by rw [e]; exact hAin k k0) (fun z => hAn q (Nat.le_trans hS.1 z))) rfl hl.1 rfl (Nat.le_of_ble_eq_true rfl) dX8_setColor_34 ⟨Nat.le_of_ble_eq_true rfl, Nat.le_of_ble_eq_true rfl⟩ (fun r_34 H locs hG hz hk hS => ?_)
      obtain ⟨rfl, μ5, hM5, hP⟩ := hG
      refine lv_goto (pc := 37) (tgt := 43) hx hb dX8_setColor_37 (by decide) ?_
      exact W.iret (v := zI (g ((12 + (20 * c)) + 5))) hx hb hr (fun tz ht hW => ⟨⟨zI (g ((12 + (20 * c)) + 5)), zI (g ((12 + (20 * c)) + 5)), rfl, rfl, by dsimp only; rw [ht]; exact ⟨_, _, _, _, hM5, oR_ok (tft (by omega)) (rfl) (rfl), hP⟩⟩, hS.F ht⟩) hS.2.2 dX8_setColor_43
    · refine zr_if_eq (pc := 20) (tgt := 40) hx hb dX8_setColor_20 (by decide) (by decide) (fun _ => ?_) (fun z => absurd z (by decide))
      refine lv_sipush (pc := 40) (v := zI (-2001)) hx hb dX8_setColor_40 zc_sipush_m2001 ?_
      exact W.iret (v := zI ((-2001))) hx hb hr (fun tz ht hW => ⟨⟨zI ((-2001)), zI ((-2001)), rfl, rfl, by dsimp only; rw [ht]; exact ⟨_, _, _, _, (mR_sc hM 0 0 (by decide) (by decide)), oR_no (tff (fun q => by omega)) (by decide), hP⟩⟩, hS.F ht⟩) hS.2.2 dX8_setColor_43
  · refine zr_if_eq (pc := 10) (tgt := 40) hx hb dX8_setColor_10 (by decide) (by decide) (fun _ => ?_) (fun z => absurd z (by decide))
    refine lv_sipush (pc := 40) (v := zI (-2001)) hx hb dX8_setColor_40 zc_sipush_m2001 ?_
    exact W.iret (v := zI ((-2001))) hx hb hr (fun tz ht hW => ⟨⟨zI ((-2001)), zI ((-2001)), rfl, rfl, by dsimp only; rw [ht]; exact ⟨_, _, _, _, (mR_sc hM 0 0 (by decide) (by decide)), oR_no (tff (fun q => by omega)) (by decide), hP⟩⟩, hS.F ht⟩) hS.2.2 dX8_setColor_43
set_option maxHeartbeats 4000000 in
set_option maxRecDepth 100000 in
theorem ct_X8_set (l : Launch) (D : va_G) (cI cT : ClassId) (sz : Nat) (am : Nat → Nat) (μ : Nat → Int → Int) (g : Int → Int) (n : Nat) (hs : Nat → Int → Int) (tl : Int) (tx : Int → Int) (hM : mR μ g n hs tl tx) (hI : Inv g) (hJ : zJ am 5) (i : Int) (v : Int) (r_i : -2147483648 ≤ i ∧ i ≤ 2147483647) (r_v : -2147483648 ≤ v ∧ v ≤ 2147483647) : zMi l yX8_set wsX8_set ({ frames := 2, cells := 0, slots := 0, locals := 44 }) D cI cT [.ref (am 0), .int (zI (i)), .int (zI (v))] sz (fun _ H => zW D am 5 (mC cI am μ) H) (fun rr H => ∃ (μ' : Nat → Int → Int) (g' : Int → Int) (n' : Nat) (hs' : Nat → Int → Int), mR μ' g' n' hs' tl tx ∧ oR (eSet i v) (gS g i) (zu g (8 + i) v) g n hs g' n' hs' rr ∧ zW D am 5 (mC cI am μ') H) (zR am 5 sz) := by
  refine Met.ofW (cc := cX8_set) (maxL := 4) (ret := (some .int)) (by decide) rfl ?_
  intro p_ e_ s m_ args below meth c_ s₁ B hml hv
  obtain ⟨rfl, hsz, hK, hF⟩ := hv
  have hx := B.exec
  have hb := B.bytes
  have hr := B.returns
  have hts := atoms_spec (ws := wsX8_set) B.pre
  have hown : s.vm.findClass RX8 = some m_.cls := findClass_of_methodNamed B.named
  have hlocks := B.notSynchronized
  have S : CallFix p_ m_ c_ cX8_set 4 s _ wsX8_set RX8 := ⟨hx, hb, hml, hown, hts⟩
  have i_X8 : ∀ w ∈ u_ws RX8 TX8 12, w ∈ wsX8_set := fun _ h => List.mem_cons_of_mem _ (List.mem_append_right _ h)
  subst hsz
  generalize hAe : (zR am 5 s.heap.size) = A
  have hAn : ∀ q : Nat, s.heap.size ≤ q → A q := fun q h => by rw [← hAe]; exact Or.inr h
  obtain ⟨H, hHe⟩ : ∃ H : Heap, H = s.heap := ⟨_, rfl⟩
  rw [← hHe] at hF ⊢
  have hS : va_S A s.heap H [] := by rw [hHe]; exact va_S.rf
  have hP := hF
  have hg := hM.1
  have hAin : ∀ k : Nat, k < 5 → A (am k) := fun k hk => by rw [← hAe]; exact Or.inl ⟨k, hk, rfl⟩
  have hl := lv_entry ([.ref (am 0), .int (zI (i)), .int (zI (v))]) (n := 4) (Nat.le_of_ble_eq_true rfl)
  rw [lg_entry_eq]
  generalize (lg_sl ([.ref (am 0), .int (zI (i)), .int (zI (v))]) ++ List.replicate (4 - (lg_sl ([.ref (am 0), .int (zI (i)), .int (zI (v))])).length) Slot.unset).toArray = ls at hl ⊢
  have hl : lv_has ls 4 [(0, .ref (am 0)), (1, .int (zI (i))), (2, .int (zI (v)))] := hl
  refine lv_aload_n (pc := 0) hx hb dX8_set_0 rfl (lv_at hl 0 rfl) ?_
  refine lv_iconst (pc := 1) (v := zI 0) hx hb dX8_set_1 rfl ?_
  refine zr_put (pc := 2) S hK (hP 0 (by decide)) rfl i_X8 tyX8 tyX8_ok nmX8 0 (by decide) (List.mem_of_getElem? (i := 1) rfl) rfl rfl rfl (Nat.le_of_ble_eq_true rfl) hS (hAin 0 (by decide)) dX8_set_2 (fun H locs hO hz hk hS => ?_)
  have hP := zW.put hP hJ 0 (by decide) hO hk (mC_0_0 0)
  refine lv_iload_n (pc := 5) hx hb dX8_set_5 rfl (lv_at hl 1 rfl) ?_
  refine lv_iconst (pc := 6) (v := zI 3) hx hb dX8_set_6 rfl ?_
  refine zr_icmp_ne (pc := 7) (tgt := 22) hx hb dX8_set_7 (by decide) (by omega) (by decide) (fun c_7 => ?_) (fun c_7 => ?_)
  · refine lv_iload_n (pc := 22) hx hb dX8_set_22 rfl (lv_at hl 1 rfl) ?_
    refine zr_i2l (pc := 23) hx hb dX8_set_23 (by omega) ?_
    refine lv_lconst (pc := 24) (v := zL 0) hx hb dX8_set_24 rfl ?_
    refine zr_ldc2 (pc := 25) (w := 2) hx hb hown (hts _ (List.mem_of_getElem? (i := 3) rfl)) dX8_set_25 (by decide +kernel) ?_
    refine zr_si (pc := 28) (As := [.long (zL (i)), .long (zL (0)), .long (zL (2))]) (rest := []) S (ct_X8_in l D cI cT i 0 2 (by omega) (by decide) (by decide)) (va_cwS 3 hts gX8_set_X8_in rfl rfl rfl (by decide +kernel) ⟨Nat.le_of_ble_eq_true rfl, Nat.le_of_ble_eq_true rfl⟩) zs0 hK trivial rfl hl.1 rfl (Nat.le_of_ble_eq_true rfl) dX8_set_28 ⟨Nat.le_of_ble_eq_true rfl, Nat.le_of_ble_eq_true rfl⟩ (fun r_28 hr_28 => ?_)
    rcases hr_28 with ⟨hb_28, rfl⟩ | ⟨hb_28, rfl⟩
    · refine zr_if_eq (pc := 31) (tgt := 50) hx hb dX8_set_31 (by decide) (by decide) (fun z => absurd z (by decide)) (fun _ => ?_)
      refine lv_iload_n (pc := 34) hx hb dX8_set_34 rfl (lv_at hl 2 rfl) ?_
      refine zr_i2l (pc := 35) hx hb dX8_set_35 (by omega) ?_
      refine lv_lconst (pc := 36) (v := zL 0) hx hb dX8_set_36 rfl ?_
      refine zr_ldc2 (pc := 37) (w := 20) hx hb hown (hts _ (List.mem_of_getElem? (i := 4) rfl)) dX8_set_37 (by decide +kernel) ?_
      refine zr_si (pc := 40) (As := [.long (zL (v)), .long (zL (0)), .long (zL (20))]) (rest := []) S (ct_X8_in l D cI cT v 0 20 (by omega) (by decide) (by decide)) (va_cwS 3 hts gX8_set_X8_in rfl rfl rfl (by decide +kernel) ⟨Nat.le_of_ble_eq_true rfl, Nat.le_of_ble_eq_true rfl⟩) zs0 hK trivial rfl hl.1 rfl (Nat.le_of_ble_eq_true rfl) dX8_set_40 ⟨Nat.le_of_ble_eq_true rfl, Nat.le_of_ble_eq_true rfl⟩ (fun r_40 hr_40 => ?_)
      rcases hr_40 with ⟨hb_40, rfl⟩ | ⟨hb_40, rfl⟩
      · refine zr_if_eq (pc := 43) (tgt := 50) hx hb dX8_set_43 (by decide) (by decide) (fun z => absurd z (by decide)) (fun _ => ?_)
        refine lv_iconst (pc := 46) (v := zI 1) hx hb dX8_set_46 rfl ?_
        refine lv_goto (pc := 47) (tgt := 51) hx hb dX8_set_47 (by decide) ?_
        refine lv_istore_n (pc := 51) (lv' := [(3, .int (zI (1))), (0, .ref (am 0)), (1, .int (zI (i))), (2, .int (zI (v)))]) hx hb dX8_set_51 rfl hl (by decide) rfl (fun ls hl => ?_)
        refine lv_iload_n (pc := 52) hx hb dX8_set_52 rfl (lv_at hl 0 rfl) ?_
        refine zr_if_eq (pc := 53) (tgt := 68) hx hb dX8_set_53 (by decide) (by decide) (fun z => absurd z (by decide)) (fun _ => ?_)
        refine lv_aload_n (pc := 56) hx hb dX8_set_56 rfl (lv_at hl 1 rfl) ?_
        refine lv_bipush (pc := 57) (v := zI 8) hx hb dX8_set_57 zc_bipush_8 ?_
        refine lv_iload_n (pc := 59) hx hb dX8_set_59 rfl (lv_at hl 2 rfl) ?_
        refine zr_iadd (pc := 60) (d := 8 + i) hx hb dX8_set_60 rfl ?_
        refine lv_iload_n (pc := 61) hx hb dX8_set_61 rfl (lv_at hl 3 rfl) ?_
        refine zr_vwi (pc := 62) (As := [.int (zI (8 + i)), .int (zI (v))]) (rest := []) S (ct_X8_put l D cI cT H.size am ((su μ 0 0 0)) g n hs tl tx (mR_sc hM 0 0 (by decide) (by decide)) hI hJ (8 + i) v (by omega) (by omega)) (cwV 2 hts gX8_set_X8_put rfl rfl rfl (by decide +kernel) ⟨Nat.le_of_ble_eq_true rfl, Nat.le_of_ble_eq_true rfl⟩) zs0 hK hP (zr_recv hK (hP 0 (by decide)) rfl) hS (fun q h => h.elim (fun ⟨k, k0, e⟩ => by rw [e]; exact hAin k k0) (fun z => hAn q (Nat.le_trans hS.1 z))) rfl hl.1 rfl (Nat.le_of_ble_eq_true rfl) dX8_set_62 ⟨Nat.le_of_ble_eq_true rfl, Nat.le_of_ble_eq_true rfl⟩ (fun r_62 H locs hG hz hk hS => ?_)
        obtain ⟨rfl, μ6, hM6, hP⟩ := hG
        refine lv_goto (pc := 65) (tgt := 71) hx hb dX8_set_65 (by decide) ?_
        exact W.iret (v := zI (g (8 + i))) hx hb hr (fun tz ht hW => ⟨⟨zI (g (8 + i)), zI (g (8 + i)), rfl, rfl, by dsimp only; rw [ht]; exact ⟨_, _, _, _, hM6, oR_ok (tft (by omega)) (rfl) (rfl), hP⟩⟩, hS.F ht⟩) hS.2.2 dX8_set_71
      · refine zr_if_eq (pc := 43) (tgt := 50) hx hb dX8_set_43 (by decide) (by decide) (fun _ => ?_) (fun z => absurd z (by decide))
        refine lv_iconst (pc := 50) (v := zI 0) hx hb dX8_set_50 rfl ?_
        refine lv_istore_n (pc := 51) (lv' := [(3, .int (zI (0))), (0, .ref (am 0)), (1, .int (zI (i))), (2, .int (zI (v)))]) hx hb dX8_set_51 rfl hl (by decide) rfl (fun ls hl => ?_)
        refine lv_iload_n (pc := 52) hx hb dX8_set_52 rfl (lv_at hl 0 rfl) ?_
        refine zr_if_eq (pc := 53) (tgt := 68) hx hb dX8_set_53 (by decide) (by decide) (fun _ => ?_) (fun z => absurd z (by decide))
        refine lv_sipush (pc := 68) (v := zI (-2001)) hx hb dX8_set_68 zc_sipush_m2001 ?_
        exact W.iret (v := zI ((-2001))) hx hb hr (fun tz ht hW => ⟨⟨zI ((-2001)), zI ((-2001)), rfl, rfl, by dsimp only; rw [ht]; exact ⟨_, _, _, _, (mR_sc hM 0 0 (by decide) (by decide)), oR_no (tff (fun q => by omega)) (by decide), hP⟩⟩, hS.F ht⟩) hS.2.2 dX8_set_71
    · refine zr_if_eq (pc := 31) (tgt := 50) hx hb dX8_set_31 (by decide) (by decide) (fun _ => ?_) (fun z => absurd z (by decide))
      refine lv_iconst (pc := 50) (v := zI 0) hx hb dX8_set_50 rfl ?_
      refine lv_istore_n (pc := 51) (lv' := [(3, .int (zI (0))), (0, .ref (am 0)), (1, .int (zI (i))), (2, .int (zI (v)))]) hx hb dX8_set_51 rfl hl (by decide) rfl (fun ls hl => ?_)
      refine lv_iload_n (pc := 52) hx hb dX8_set_52 rfl (lv_at hl 0 rfl) ?_
      refine zr_if_eq (pc := 53) (tgt := 68) hx hb dX8_set_53 (by decide) (by decide) (fun _ => ?_) (fun z => absurd z (by decide))
      refine lv_sipush (pc := 68) (v := zI (-2001)) hx hb dX8_set_68 zc_sipush_m2001 ?_
      exact W.iret (v := zI ((-2001))) hx hb hr (fun tz ht hW => ⟨⟨zI ((-2001)), zI ((-2001)), rfl, rfl, by dsimp only; rw [ht]; exact ⟨_, _, _, _, (mR_sc hM 0 0 (by decide) (by decide)), oR_no (tff (fun q => by omega)) (by decide), hP⟩⟩, hS.F ht⟩) hS.2.2 dX8_set_71
  · refine lv_iload_n (pc := 10) hx hb dX8_set_10 rfl (lv_at hl 2 rfl) ?_
    refine zr_i2l (pc := 11) hx hb dX8_set_11 (by omega) ?_
    refine lv_lconst (pc := 12) (v := zL 1) hx hb dX8_set_12 rfl ?_
    refine zr_ldc2 (pc := 13) (w := 9) hx hb hown (hts _ (List.mem_of_getElem? (i := 2) rfl)) dX8_set_13 (by decide +kernel) ?_
    refine zr_si (pc := 16) (As := [.long (zL (v)), .long (zL (1)), .long (zL (9))]) (rest := []) S (ct_X8_in l D cI cT v 1 9 (by omega) (by decide) (by decide)) (va_cwS 3 hts gX8_set_X8_in rfl rfl rfl (by decide +kernel) ⟨Nat.le_of_ble_eq_true rfl, Nat.le_of_ble_eq_true rfl⟩) zs0 hK trivial rfl hl.1 rfl (Nat.le_of_ble_eq_true rfl) dX8_set_16 ⟨Nat.le_of_ble_eq_true rfl, Nat.le_of_ble_eq_true rfl⟩ (fun r_16 hr_16 => ?_)
    rcases hr_16 with ⟨hb_16, rfl⟩ | ⟨hb_16, rfl⟩
    · refine lv_goto (pc := 19) (tgt := 51) hx hb dX8_set_19 (by decide) ?_
      refine lv_istore_n (pc := 51) (lv' := [(3, .int (zI (1))), (0, .ref (am 0)), (1, .int (zI (i))), (2, .int (zI (v)))]) hx hb dX8_set_51 rfl hl (by decide) rfl (fun ls hl => ?_)
      refine lv_iload_n (pc := 52) hx hb dX8_set_52 rfl (lv_at hl 0 rfl) ?_
      refine zr_if_eq (pc := 53) (tgt := 68) hx hb dX8_set_53 (by decide) (by decide) (fun z => absurd z (by decide)) (fun _ => ?_)
      refine lv_aload_n (pc := 56) hx hb dX8_set_56 rfl (lv_at hl 1 rfl) ?_
      refine lv_bipush (pc := 57) (v := zI 8) hx hb dX8_set_57 zc_bipush_8 ?_
      refine lv_iload_n (pc := 59) hx hb dX8_set_59 rfl (lv_at hl 2 rfl) ?_
      refine zr_iadd (pc := 60) (d := 8 + i) hx hb dX8_set_60 rfl ?_
      refine lv_iload_n (pc := 61) hx hb dX8_set_61 rfl (lv_at hl 3 rfl) ?_
      refine zr_vwi (pc := 62) (As := [.int (zI (8 + i)), .int (zI (v))]) (rest := []) S (ct_X8_put l D cI cT H.size am ((su μ 0 0 0)) g n hs tl tx (mR_sc hM 0 0 (by decide) (by decide)) hI hJ (8 + i) v (by omega) (by omega)) (cwV 2 hts gX8_set_X8_put rfl rfl rfl (by decide +kernel) ⟨Nat.le_of_ble_eq_true rfl, Nat.le_of_ble_eq_true rfl⟩) zs0 hK hP (zr_recv hK (hP 0 (by decide)) rfl) hS (fun q h => h.elim (fun ⟨k, k0, e⟩ => by rw [e]; exact hAin k k0) (fun z => hAn q (Nat.le_trans hS.1 z))) rfl hl.1 rfl (Nat.le_of_ble_eq_true rfl) dX8_set_62 ⟨Nat.le_of_ble_eq_true rfl, Nat.le_of_ble_eq_true rfl⟩ (fun r_62 H locs hG hz hk hS => ?_)
      obtain ⟨rfl, μ7, hM7, hP⟩ := hG
      refine lv_goto (pc := 65) (tgt := 71) hx hb dX8_set_65 (by decide) ?_
      exact W.iret (v := zI (g (8 + i))) hx hb hr (fun tz ht hW => ⟨⟨zI (g (8 + i)), zI (g (8 + i)), rfl, rfl, by dsimp only; rw [ht]; exact ⟨_, _, _, _, hM7, oR_ok (tft (by omega)) (rfl) (rfl), hP⟩⟩, hS.F ht⟩) hS.2.2 dX8_set_71
    · refine lv_goto (pc := 19) (tgt := 51) hx hb dX8_set_19 (by decide) ?_
      refine lv_istore_n (pc := 51) (lv' := [(3, .int (zI (0))), (0, .ref (am 0)), (1, .int (zI (i))), (2, .int (zI (v)))]) hx hb dX8_set_51 rfl hl (by decide) rfl (fun ls hl => ?_)
      refine lv_iload_n (pc := 52) hx hb dX8_set_52 rfl (lv_at hl 0 rfl) ?_
      refine zr_if_eq (pc := 53) (tgt := 68) hx hb dX8_set_53 (by decide) (by decide) (fun _ => ?_) (fun z => absurd z (by decide))
      refine lv_sipush (pc := 68) (v := zI (-2001)) hx hb dX8_set_68 zc_sipush_m2001 ?_
      exact W.iret (v := zI ((-2001))) hx hb hr (fun tz ht hW => ⟨⟨zI ((-2001)), zI ((-2001)), rfl, rfl, by dsimp only; rw [ht]; exact ⟨_, _, _, _, (mR_sc hM 0 0 (by decide) (by decide)), oR_no (tff (fun q => by omega)) (by decide), hP⟩⟩, hS.F ht⟩) hS.2.2 dX8_set_71
set_option maxHeartbeats 4000000 in
set_option maxRecDepth 100000 in
theorem ct_X8_pass (l : Launch) (D : va_G) (cI cT : ClassId) (sz : Nat) (am : Nat → Nat) (μ : Nat → Int → Int) (g : Int → Int) (n : Nat) (hs : Nat → Int → Int) (tl : Int) (tx : Int → Int) (hM : mR μ g n hs tl tx) (hI : Inv g) (hJ : zJ am 5) (d : Int) (r_d : -2147483648 ≤ d ∧ d ≤ 2147483647) : zMi l yX8_pass wsX8_pass ({ frames := 1, cells := 0, slots := 0, locals := 25 }) D cI cT [.ref (am 0), .int (zI (d))] sz (fun _ H => zW D am 5 (mC cI am μ) H) (fun rr H => ∃ (μ' : Nat → Int → Int) (g' : Int → Int) (n' : Nat) (hs' : Nat → Int → Int), mR μ' g' n' hs' tl tx ∧ oR (ePass g d) (g 3 + d) (zu g 3 (g 3 + d)) g n hs g' n' hs' rr ∧ zW D am 5 (mC cI am μ') H) (zR am 5 sz) := by
  refine Met.ofW (cc := cX8_pass) (maxL := 2) (ret := (some .int)) (by decide) rfl ?_
  intro p_ e_ s m_ args below meth c_ s₁ B hml hv
  obtain ⟨rfl, hsz, hK, hF⟩ := hv
  have hx := B.exec
  have hb := B.bytes
  have hr := B.returns
  have hts := atoms_spec (ws := wsX8_pass) B.pre
  have hown : s.vm.findClass RX8 = some m_.cls := findClass_of_methodNamed B.named
  have hlocks := B.notSynchronized
  have S : CallFix p_ m_ c_ cX8_pass 2 s _ wsX8_pass RX8 := ⟨hx, hb, hml, hown, hts⟩
  have i_X8 : ∀ w ∈ u_ws RX8 TX8 12, w ∈ wsX8_pass := fun _ h => List.mem_cons_of_mem _ (List.mem_append_right _ h)
  subst hsz
  generalize hAe : (zR am 5 s.heap.size) = A
  have hAn : ∀ q : Nat, s.heap.size ≤ q → A q := fun q h => by rw [← hAe]; exact Or.inr h
  obtain ⟨H, hHe⟩ : ∃ H : Heap, H = s.heap := ⟨_, rfl⟩
  rw [← hHe] at hF ⊢
  have hS : va_S A s.heap H [] := by rw [hHe]; exact va_S.rf
  have hP := hF
  have hg := hM.1
  have hAin : ∀ k : Nat, k < 5 → A (am k) := fun k hk => by rw [← hAe]; exact Or.inl ⟨k, hk, rfl⟩
  have hto := iv_to hI
  have hl := lv_entry ([.ref (am 0), .int (zI (d))]) (n := 2) (Nat.le_of_ble_eq_true rfl)
  rw [lg_entry_eq]
  generalize (lg_sl ([.ref (am 0), .int (zI (d))]) ++ List.replicate (2 - (lg_sl ([.ref (am 0), .int (zI (d))])).length) Slot.unset).toArray = ls at hl ⊢
  have hl : lv_has ls 2 [(0, .ref (am 0)), (1, .int (zI (d)))] := hl
  refine lv_aload_n (pc := 0) hx hb dX8_pass_0 rfl (lv_at hl 0 rfl) ?_
  refine lv_iconst (pc := 1) (v := zI 0) hx hb dX8_pass_1 rfl ?_
  refine zr_put (pc := 2) S hK (hP 0 (by decide)) rfl i_X8 tyX8 tyX8_ok nmX8 0 (by decide) (List.mem_of_getElem? (i := 1) rfl) rfl rfl rfl (Nat.le_of_ble_eq_true rfl) hS (hAin 0 (by decide)) dX8_pass_2 (fun H locs hO hz hk hS => ?_)
  have hP := zW.put hP hJ 0 (by decide) hO hk (mC_0_0 0)
  refine lv_iload_n (pc := 5) hx hb dX8_pass_5 rfl (lv_at hl 1 rfl) ?_
  refine zr_i2l (pc := 6) hx hb dX8_pass_6 (by omega) ?_
  refine lv_lconst (pc := 7) (v := zL 1) hx hb dX8_pass_7 rfl ?_
  refine zr_ldc2 (pc := 8) (w := 60) hx hb hown (hts _ (List.mem_of_getElem? (i := 2) rfl)) dX8_pass_8 (by decide +kernel) ?_
  refine zr_si (pc := 11) (As := [.long (zL (d)), .long (zL (1)), .long (zL (60))]) (rest := []) S (ct_X8_in l D cI cT d 1 60 (by omega) (by decide) (by decide)) (va_cwS 3 hts gX8_pass_X8_in rfl rfl rfl (by decide +kernel) ⟨Nat.le_of_ble_eq_true rfl, Nat.le_of_ble_eq_true rfl⟩) zs0 hK trivial rfl hl.1 rfl (Nat.le_of_ble_eq_true rfl) dX8_pass_11 ⟨Nat.le_of_ble_eq_true rfl, Nat.le_of_ble_eq_true rfl⟩ (fun r_11 hr_11 => ?_)
  rcases hr_11 with ⟨hb_11, rfl⟩ | ⟨hb_11, rfl⟩
  · refine zr_if_ne (pc := 14) (tgt := 21) hx hb dX8_pass_14 (by decide) (by decide) (fun _ => ?_) (fun z => absurd z (by decide))
    refine lv_aload_n (pc := 21) hx hb dX8_pass_21 rfl (lv_at hl 0 rfl) ?_
    refine zr_get (pc := 22) S hK (hP 0 (by decide)) rfl i_X8 1 (by decide) (List.mem_of_getElem? (i := 3) rfl) rfl dX8_pass_22 ?_
    refine lv_iconst (pc := 25) (v := zI 3) hx hb dX8_pass_25 rfl ?_
    refine zr_ald (pc := 26) (n := 572) hx hb (zAr_of (zK_int hK) (hP 1 (by decide))) (by decide) (by decide) (by decide) dX8_pass_26 ?_
    refine zr_top (b := g 3) (congrFun ((su_ne (by decide) _ _).trans hg) _) ?_
    refine lv_iload_n (pc := 27) hx hb dX8_pass_27 rfl (lv_at hl 1 rfl) ?_
    refine zr_iadd (pc := 28) (d := (g 3) + d) hx hb dX8_pass_28 rfl ?_
    refine lv_sipush (pc := 29) (v := zI 300) hx hb dX8_pass_29 zc_sipush_300 ?_
    refine zr_icmp_le (pc := 32) (tgt := 39) hx hb dX8_pass_32 (by decide) (by omega) (by decide) (fun c_32 => ?_) (fun c_32 => ?_)
    · refine lv_aload_n (pc := 39) hx hb dX8_pass_39 rfl (lv_at hl 0 rfl) ?_
      refine zr_vwv (pc := 40) (As := []) (rest := []) S (ct_X8_act l D cI cT H.size am ((su μ 0 0 0)) g n hs tl tx (mR_sc hM 0 0 (by decide) (by decide)) hI hJ) (cwV 0 hts gX8_pass_X8_act rfl rfl rfl (by decide +kernel) ⟨Nat.le_of_ble_eq_true rfl, Nat.le_of_ble_eq_true rfl⟩) zs0 hK hP (zr_recv hK (hP 0 (by decide)) rfl) hS (fun q h => h.elim (fun ⟨k, k0, e⟩ => by rw [e]; exact hAin k k0) (fun z => hAn q (Nat.le_trans hS.1 z))) rfl hl.1 rfl (Nat.le_of_ble_eq_true rfl) dX8_pass_40 ⟨Nat.le_of_ble_eq_true rfl, Nat.le_of_ble_eq_true rfl⟩ (fun H locs hG hz hk hS => ?_)
      obtain ⟨μ8, ha8, hM8, hP⟩ := hG
      refine lv_aload_n (pc := 43) hx hb dX8_pass_43 rfl (lv_at hl 0 rfl) ?_
      refine zr_get (pc := 44) S hK (hP 0 (by decide)) rfl i_X8 1 (by decide) (List.mem_of_getElem? (i := 3) rfl) rfl dX8_pass_44 ?_
      refine lv_iconst (pc := 47) (v := zI 3) hx hb dX8_pass_47 rfl ?_
      refine lv_dup2_11 (pc := 48) hx hb dX8_pass_48 rfl rfl ?_
      refine zr_ald (pc := 49) (n := 572) hx hb (zAr_of (zK_int hK) (hP 1 (by decide))) (by decide) (by decide) (by decide) dX8_pass_49 ?_
      refine zr_top (b := g 3) (congrFun hM8.1 _) ?_
      refine lv_iload_n (pc := 50) hx hb dX8_pass_50 rfl (lv_at hl 1 rfl) ?_
      refine zr_iadd (pc := 51) (d := (g 3) + d) hx hb dX8_pass_51 rfl ?_
      refine zr_ast (pc := 52) (k := 572) hx hb hK (hP 1 (by decide)) (by decide) (by decide) (by decide) hS (hAin 1 (by decide)) dX8_pass_52 (fun H locs hO hz hk hS => ?_)
      have hP := zW.put hP hJ 1 (by decide) hO hk (mC_a 1 (by decide) _ _)
      refine lv_aload_n (pc := 53) hx hb dX8_pass_53 rfl (lv_at hl 0 rfl) ?_
      refine zr_get (pc := 54) S hK (hP 0 (by decide)) rfl i_X8 1 (by decide) (List.mem_of_getElem? (i := 3) rfl) rfl dX8_pass_54 ?_
      refine lv_iconst (pc := 57) (v := zI 3) hx hb dX8_pass_57 rfl ?_
      refine zr_ald (pc := 58) (n := 572) hx hb (zAr_of (zK_int hK) (hP 1 (by decide))) (by decide) (by decide) (by decide) dX8_pass_58 ?_
      refine zr_top (b := g 3 + d) ((congrFun ((su_eq _ _ _ _).trans (congrArg (fun fz => zu fz 3 ((g 3) + d)) hM8.1)) _).trans (if_pos rfl)) ?_
      exact W.iret (v := zI (g 3 + d)) hx hb hr (fun tz ht hW => ⟨⟨zI (g 3 + d), zI (g 3 + d), rfl, rfl, by dsimp only; rw [ht]; exact ⟨_, _, _, _, (mR_put hM8 3 ((g 3) + d)), oR_ok ((tft (by omega)).trans (tft (by omega))) (rfl) (rfl), hP⟩⟩, hS.F ht⟩) hS.2.2 dX8_pass_59
    · refine lv_sipush (pc := 35) (v := zI (-2003)) hx hb dX8_pass_35 zc_sipush_m2003 ?_
      exact W.iret (v := zI ((-2003))) hx hb hr (fun tz ht hW => ⟨⟨zI ((-2003)), zI ((-2003)), rfl, rfl, by dsimp only; rw [ht]; exact ⟨_, _, _, _, (mR_sc hM 0 0 (by decide) (by decide)), oR_no ((tft (by omega)).trans (tff (by omega))) (by decide), hP⟩⟩, hS.F ht⟩) hS.2.2 dX8_pass_38
  · refine zr_if_ne (pc := 14) (tgt := 21) hx hb dX8_pass_14 (by decide) (by decide) (fun z => absurd z (by decide)) (fun _ => ?_)
    refine lv_sipush (pc := 17) (v := zI (-2001)) hx hb dX8_pass_17 zc_sipush_m2001 ?_
    exact W.iret (v := zI ((-2001))) hx hb hr (fun tz ht hW => ⟨⟨zI ((-2001)), zI ((-2001)), rfl, rfl, by dsimp only; rw [ht]; exact ⟨_, _, _, _, (mR_sc hM 0 0 (by decide) (by decide)), oR_no (tff (fun q => by omega)) (by decide), hP⟩⟩, hS.F ht⟩) hS.2.2 dX8_pass_20
set_option maxHeartbeats 4000000 in
set_option maxRecDepth 100000 in
theorem ct_X8_wear (l : Launch) (D : va_G) (cI cT : ClassId) (sz : Nat) (am : Nat → Nat) (μ : Nat → Int → Int) (g : Int → Int) (n : Nat) (hs : Nat → Int → Int) (tl : Int) (tx : Int → Int) (hM : mR μ g n hs tl tx) (hI : Inv g) (hJ : zJ am 5) (sc : Int) (a : Int) (c : Int) (r_sc : -2147483648 ≤ sc ∧ sc ≤ 2147483647) (r_a : -2147483648 ≤ a ∧ a ≤ 2147483647) (r_c : -2147483648 ≤ c ∧ c ≤ 2147483647) : zMi l yX8_wear wsX8_wear ({ frames := 2, cells := 0, slots := 0, locals := 46 }) D cI cT [.ref (am 0), .int (zI (sc)), .int (zI (a)), .int (zI (c))] sz (fun _ H => zW D am 5 (mC cI am μ) H) (fun rr H => ∃ (μ' : Nat → Int → Int) (g' : Int → Int) (n' : Nat) (hs' : Nat → Int → Int), mR μ' g' n' hs' tl tx ∧ oR (eWear g sc a c) (gW g sc a) (zu g (356 + 8 * sc + a) c) g n hs g' n' hs' rr ∧ zW D am 5 (mC cI am μ') H) (zR am 5 sz) := by
  refine Met.ofW (cc := cX8_wear) (maxL := 4) (ret := (some .int)) (by decide) rfl ?_
  intro p_ e_ s m_ args below meth c_ s₁ B hml hv
  obtain ⟨rfl, hsz, hK, hF⟩ := hv
  have hx := B.exec
  have hb := B.bytes
  have hr := B.returns
  have hts := atoms_spec (ws := wsX8_wear) B.pre
  have hown : s.vm.findClass RX8 = some m_.cls := findClass_of_methodNamed B.named
  have hlocks := B.notSynchronized
  have S : CallFix p_ m_ c_ cX8_wear 4 s _ wsX8_wear RX8 := ⟨hx, hb, hml, hown, hts⟩
  have i_X8 : ∀ w ∈ u_ws RX8 TX8 12, w ∈ wsX8_wear := fun _ h => List.mem_cons_of_mem _ (List.mem_append_right _ h)
  subst hsz
  generalize hAe : (zR am 5 s.heap.size) = A
  have hAn : ∀ q : Nat, s.heap.size ≤ q → A q := fun q h => by rw [← hAe]; exact Or.inr h
  obtain ⟨H, hHe⟩ : ∃ H : Heap, H = s.heap := ⟨_, rfl⟩
  rw [← hHe] at hF ⊢
  have hS : va_S A s.heap H [] := by rw [hHe]; exact va_S.rf
  have hP := hF
  have hg := hM.1
  have hAin : ∀ k : Nat, k < 5 → A (am k) := fun k hk => by rw [← hAe]; exact Or.inl ⟨k, hk, rfl⟩
  have hnA := iv_nA hI
  have hnC := iv_nC hI
  have hl := lv_entry ([.ref (am 0), .int (zI (sc)), .int (zI (a)), .int (zI (c))]) (n := 4) (Nat.le_of_ble_eq_true rfl)
  rw [lg_entry_eq]
  generalize (lg_sl ([.ref (am 0), .int (zI (sc)), .int (zI (a)), .int (zI (c))]) ++ List.replicate (4 - (lg_sl ([.ref (am 0), .int (zI (sc)), .int (zI (a)), .int (zI (c))])).length) Slot.unset).toArray = ls at hl ⊢
  have hl : lv_has ls 4 [(0, .ref (am 0)), (1, .int (zI (sc))), (2, .int (zI (a))), (3, .int (zI (c)))] := hl
  refine lv_aload_n (pc := 0) hx hb dX8_wear_0 rfl (lv_at hl 0 rfl) ?_
  refine lv_iconst (pc := 1) (v := zI 0) hx hb dX8_wear_1 rfl ?_
  refine zr_put (pc := 2) S hK (hP 0 (by decide)) rfl i_X8 tyX8 tyX8_ok nmX8 0 (by decide) (List.mem_of_getElem? (i := 1) rfl) rfl rfl rfl (Nat.le_of_ble_eq_true rfl) hS (hAin 0 (by decide)) dX8_wear_2 (fun H locs hO hz hk hS => ?_)
  have hP := zW.put hP hJ 0 (by decide) hO hk (mC_0_0 0)
  refine lv_iload_n (pc := 5) hx hb dX8_wear_5 rfl (lv_at hl 1 rfl) ?_
  refine zr_si (pc := 6) (As := [.int (zI (sc))]) (rest := []) S (ct_X8_isScene l D cI cT sc (by omega)) (va_cwS 1 hts gX8_wear_X8_isScene rfl rfl rfl (by decide +kernel) ⟨Nat.le_of_ble_eq_true rfl, Nat.le_of_ble_eq_true rfl⟩) zs0 hK trivial rfl hl.1 rfl (Nat.le_of_ble_eq_true rfl) dX8_wear_6 ⟨Nat.le_of_ble_eq_true rfl, Nat.le_of_ble_eq_true rfl⟩ (fun r_6 hr_6 => ?_)
  rcases hr_6 with ⟨hb_6, rfl⟩ | ⟨hb_6, rfl⟩
  · refine zr_if_eq (pc := 9) (tgt := 33) hx hb dX8_wear_9 (by decide) (by decide) (fun z => absurd z (by decide)) (fun _ => ?_)
    refine lv_aload_n (pc := 12) hx hb dX8_wear_12 rfl (lv_at hl 0 rfl) ?_
    refine lv_iload_n (pc := 13) hx hb dX8_wear_13 rfl (lv_at hl 2 rfl) ?_
    refine zr_vi (pc := 14) (As := [.int (zI (a))]) (rest := []) S (ct_X8_isActor l D cI cT am ((su μ 0 0 0)) g (((su_ne (by decide) _ _).trans hg)) hI a (by omega)) (cwV 1 hts gX8_wear_X8_isActor rfl rfl rfl (by decide +kernel) ⟨Nat.le_of_ble_eq_true rfl, Nat.le_of_ble_eq_true rfl⟩) zs0 hK hP (zr_recv hK (hP 0 (by decide)) rfl) rfl hl.1 rfl (Nat.le_of_ble_eq_true rfl) dX8_wear_14 ⟨Nat.le_of_ble_eq_true rfl, Nat.le_of_ble_eq_true rfl⟩ (fun r_14 hr_14 => ?_)
    rcases hr_14 with ⟨hb_14, rfl⟩ | ⟨hb_14, rfl⟩
    · refine zr_if_eq (pc := 17) (tgt := 33) hx hb dX8_wear_17 (by decide) (by decide) (fun z => absurd z (by decide)) (fun _ => ?_)
      refine lv_iload_n (pc := 20) hx hb dX8_wear_20 rfl (lv_at hl 3 rfl) ?_
      refine lv_iconst (pc := 21) (v := zI (-1)) hx hb dX8_wear_21 rfl ?_
      refine zr_icmp_eq (pc := 22) (tgt := 37) hx hb dX8_wear_22 (by decide) (by omega) (by decide) (fun c_22 => ?_) (fun c_22 => ?_)
      · refine lv_aload_n (pc := 37) hx hb dX8_wear_37 rfl (lv_at hl 0 rfl) ?_
        refine lv_sipush (pc := 38) (v := zI 356) hx hb dX8_wear_38 zc_sipush_356 ?_
        refine lv_bipush (pc := 41) (v := zI 8) hx hb dX8_wear_41 zc_bipush_8 ?_
        refine lv_iload_n (pc := 43) hx hb dX8_wear_43 rfl (lv_at hl 1 rfl) ?_
        refine zr_imul (pc := 44) (d := 8 * sc) hx hb dX8_wear_44 rfl ?_
        refine zr_iadd (pc := 45) (d := 356 + (8 * sc)) hx hb dX8_wear_45 rfl ?_
        refine lv_iload_n (pc := 46) hx hb dX8_wear_46 rfl (lv_at hl 2 rfl) ?_
        refine zr_iadd (pc := 47) (d := (356 + (8 * sc)) + a) hx hb dX8_wear_47 rfl ?_
        refine lv_iload_n (pc := 48) hx hb dX8_wear_48 rfl (lv_at hl 3 rfl) ?_
        refine zr_vwi (pc := 49) (As := [.int (zI ((356 + (8 * sc)) + a)), .int (zI (c))]) (rest := []) S (ct_X8_put l D cI cT H.size am ((su μ 0 0 0)) g n hs tl tx (mR_sc hM 0 0 (by decide) (by decide)) hI hJ ((356 + (8 * sc)) + a) c (by omega) (by omega)) (cwV 2 hts gX8_wear_X8_put rfl rfl rfl (by decide +kernel) ⟨Nat.le_of_ble_eq_true rfl, Nat.le_of_ble_eq_true rfl⟩) zs0 hK hP (zr_recv hK (hP 0 (by decide)) rfl) hS (fun q h => h.elim (fun ⟨k, k0, e⟩ => by rw [e]; exact hAin k k0) (fun z => hAn q (Nat.le_trans hS.1 z))) rfl hl.1 rfl (Nat.le_of_ble_eq_true rfl) dX8_wear_49 ⟨Nat.le_of_ble_eq_true rfl, Nat.le_of_ble_eq_true rfl⟩ (fun r_49 H locs hG hz hk hS => ?_)
        obtain ⟨rfl, μ9, hM9, hP⟩ := hG
        exact W.iret (v := zI (g ((356 + (8 * sc)) + a))) hx hb hr (fun tz ht hW => ⟨⟨zI (g ((356 + (8 * sc)) + a)), zI (g ((356 + (8 * sc)) + a)), rfl, rfl, by dsimp only; rw [ht]; exact ⟨_, _, _, _, hM9, oR_ok (tft (by omega)) (rfl) (rfl), hP⟩⟩, hS.F ht⟩) hS.2.2 dX8_wear_52
      · refine lv_aload_n (pc := 25) hx hb dX8_wear_25 rfl (lv_at hl 0 rfl) ?_
        refine lv_iload_n (pc := 26) hx hb dX8_wear_26 rfl (lv_at hl 3 rfl) ?_
        refine zr_vi (pc := 27) (As := [.int (zI (c))]) (rest := []) S (ct_X8_isCostume l D cI cT am ((su μ 0 0 0)) g (((su_ne (by decide) _ _).trans hg)) hI c (by omega)) (cwV 1 hts gX8_wear_X8_isCostume rfl rfl rfl (by decide +kernel) ⟨Nat.le_of_ble_eq_true rfl, Nat.le_of_ble_eq_true rfl⟩) zs0 hK hP (zr_recv hK (hP 0 (by decide)) rfl) rfl hl.1 rfl (Nat.le_of_ble_eq_true rfl) dX8_wear_27 ⟨Nat.le_of_ble_eq_true rfl, Nat.le_of_ble_eq_true rfl⟩ (fun r_27 hr_27 => ?_)
        rcases hr_27 with ⟨hb_27, rfl⟩ | ⟨hb_27, rfl⟩
        · refine zr_if_ne (pc := 30) (tgt := 37) hx hb dX8_wear_30 (by decide) (by decide) (fun _ => ?_) (fun z => absurd z (by decide))
          refine lv_aload_n (pc := 37) hx hb dX8_wear_37 rfl (lv_at hl 0 rfl) ?_
          refine lv_sipush (pc := 38) (v := zI 356) hx hb dX8_wear_38 zc_sipush_356 ?_
          refine lv_bipush (pc := 41) (v := zI 8) hx hb dX8_wear_41 zc_bipush_8 ?_
          refine lv_iload_n (pc := 43) hx hb dX8_wear_43 rfl (lv_at hl 1 rfl) ?_
          refine zr_imul (pc := 44) (d := 8 * sc) hx hb dX8_wear_44 rfl ?_
          refine zr_iadd (pc := 45) (d := 356 + (8 * sc)) hx hb dX8_wear_45 rfl ?_
          refine lv_iload_n (pc := 46) hx hb dX8_wear_46 rfl (lv_at hl 2 rfl) ?_
          refine zr_iadd (pc := 47) (d := (356 + (8 * sc)) + a) hx hb dX8_wear_47 rfl ?_
          refine lv_iload_n (pc := 48) hx hb dX8_wear_48 rfl (lv_at hl 3 rfl) ?_
          refine zr_vwi (pc := 49) (As := [.int (zI ((356 + (8 * sc)) + a)), .int (zI (c))]) (rest := []) S (ct_X8_put l D cI cT H.size am ((su μ 0 0 0)) g n hs tl tx (mR_sc hM 0 0 (by decide) (by decide)) hI hJ ((356 + (8 * sc)) + a) c (by omega) (by omega)) (cwV 2 hts gX8_wear_X8_put rfl rfl rfl (by decide +kernel) ⟨Nat.le_of_ble_eq_true rfl, Nat.le_of_ble_eq_true rfl⟩) zs0 hK hP (zr_recv hK (hP 0 (by decide)) rfl) hS (fun q h => h.elim (fun ⟨k, k0, e⟩ => by rw [e]; exact hAin k k0) (fun z => hAn q (Nat.le_trans hS.1 z))) rfl hl.1 rfl (Nat.le_of_ble_eq_true rfl) dX8_wear_49 ⟨Nat.le_of_ble_eq_true rfl, Nat.le_of_ble_eq_true rfl⟩ (fun r_49 H locs hG hz hk hS => ?_)
          obtain ⟨rfl, μ10, hM10, hP⟩ := hG
          exact W.iret (v := zI (g ((356 + (8 * sc)) + a))) hx hb hr (fun tz ht hW => ⟨⟨zI (g ((356 + (8 * sc)) + a)), zI (g ((356 + (8 * sc)) + a)), rfl, rfl, by dsimp only; rw [ht]; exact ⟨_, _, _, _, hM10, oR_ok (tft (by omega)) (rfl) (rfl), hP⟩⟩, hS.F ht⟩) hS.2.2 dX8_wear_52
        · refine zr_if_ne (pc := 30) (tgt := 37) hx hb dX8_wear_30 (by decide) (by decide) (fun z => absurd z (by decide)) (fun _ => ?_)
          refine lv_sipush (pc := 33) (v := zI (-2001)) hx hb dX8_wear_33 zc_sipush_m2001 ?_
          exact W.iret (v := zI ((-2001))) hx hb hr (fun tz ht hW => ⟨⟨zI ((-2001)), zI ((-2001)), rfl, rfl, by dsimp only; rw [ht]; exact ⟨_, _, _, _, (mR_sc hM 0 0 (by decide) (by decide)), oR_no (tff (fun q => by omega)) (by decide), hP⟩⟩, hS.F ht⟩) hS.2.2 dX8_wear_36
    · refine zr_if_eq (pc := 17) (tgt := 33) hx hb dX8_wear_17 (by decide) (by decide) (fun _ => ?_) (fun z => absurd z (by decide))
      refine lv_sipush (pc := 33) (v := zI (-2001)) hx hb dX8_wear_33 zc_sipush_m2001 ?_
      exact W.iret (v := zI ((-2001))) hx hb hr (fun tz ht hW => ⟨⟨zI ((-2001)), zI ((-2001)), rfl, rfl, by dsimp only; rw [ht]; exact ⟨_, _, _, _, (mR_sc hM 0 0 (by decide) (by decide)), oR_no (tff (fun q => by omega)) (by decide), hP⟩⟩, hS.F ht⟩) hS.2.2 dX8_wear_36
  · refine zr_if_eq (pc := 9) (tgt := 33) hx hb dX8_wear_9 (by decide) (by decide) (fun _ => ?_) (fun z => absurd z (by decide))
    refine lv_sipush (pc := 33) (v := zI (-2001)) hx hb dX8_wear_33 zc_sipush_m2001 ?_
    exact W.iret (v := zI ((-2001))) hx hb hr (fun tz ht hW => ⟨⟨zI ((-2001)), zI ((-2001)), rfl, rfl, by dsimp only; rw [ht]; exact ⟨_, _, _, _, (mR_sc hM 0 0 (by decide) (by decide)), oR_no (tff (fun q => by omega)) (by decide), hP⟩⟩, hS.F ht⟩) hS.2.2 dX8_wear_36
set_option maxHeartbeats 4000000 in
set_option maxRecDepth 100000 in
theorem ct_X8_alter (l : Launch) (D : va_G) (cI cT : ClassId) (sz : Nat) (am : Nat → Nat) (μ : Nat → Int → Int) (g : Int → Int) (n : Nat) (hs : Nat → Int → Int) (tl : Int) (tx : Int → Int) (hM : mR μ g n hs tl tx) (hI : Inv g) (hJ : zJ am 5) (c : Int) (m : Int) (d : Int) (r_c : -2147483648 ≤ c ∧ c ≤ 2147483647) (r_m : -2147483648 ≤ m ∧ m ≤ 2147483647) (r_d : -2147483648 ≤ d ∧ d ≤ 2147483647) : zMi l yX8_alter wsX8_alter ({ frames := 3, cells := 0, slots := 0, locals := 71 }) D cI cT [.ref (am 0), .int (zI (c)), .int (zI (m)), .int (zI (d))] sz (fun _ H => zW D am 5 (mC cI am μ) H) (fun rr H => ∃ (μ' : Nat → Int → Int) (g' : Int → Int) (n' : Nat) (hs' : Nat → Int → Int), mR μ' g' n' hs' tl tx ∧ oR (eAlt g c m d) (10 + 5 * zabs d) (zu (altG g c m d) 4 (g 4 + (10 + 5 * zabs d))) g n hs g' n' hs' rr ∧ zW D am 5 (mC cI am μ') H) (zR am 5 sz) := by
  refine Met.ofW (cc := cX8_alter) (maxL := 6) (ret := (some .int)) (by decide) rfl ?_
  intro p_ e_ s m_ args below meth c_ s₁ B hml hv
  obtain ⟨rfl, hsz, hK, hF⟩ := hv
  have hx := B.exec
  have hb := B.bytes
  have hr := B.returns
  have hts := atoms_spec (ws := wsX8_alter) B.pre
  have hown : s.vm.findClass RX8 = some m_.cls := findClass_of_methodNamed B.named
  have hlocks := B.notSynchronized
  have S : CallFix p_ m_ c_ cX8_alter 6 s _ wsX8_alter RX8 := ⟨hx, hb, hml, hown, hts⟩
  have i_X8 : ∀ w ∈ u_ws RX8 TX8 12, w ∈ wsX8_alter := fun _ h => List.mem_cons_of_mem _ (List.mem_append_right _ h)
  subst hsz
  generalize hAe : (zR am 5 s.heap.size) = A
  have hAn : ∀ q : Nat, s.heap.size ≤ q → A q := fun q h => by rw [← hAe]; exact Or.inr h
  obtain ⟨H, hHe⟩ : ∃ H : Heap, H = s.heap := ⟨_, rfl⟩
  rw [← hHe] at hF ⊢
  have hS : va_S A s.heap H [] := by rw [hHe]; exact va_S.rf
  have hP := hF
  have hg := hM.1
  have hAin : ∀ k : Nat, k < 5 → A (am k) := fun k hk => by rw [← hAe]; exact Or.inl ⟨k, hk, rfl⟩
  have hnC := iv_nC hI
  have hl := lv_entry ([.ref (am 0), .int (zI (c)), .int (zI (m)), .int (zI (d))]) (n := 6) (Nat.le_of_ble_eq_true rfl)
  rw [lg_entry_eq]
  generalize (lg_sl ([.ref (am 0), .int (zI (c)), .int (zI (m)), .int (zI (d))]) ++ List.replicate (6 - (lg_sl ([.ref (am 0), .int (zI (c)), .int (zI (m)), .int (zI (d))])).length) Slot.unset).toArray = ls at hl ⊢
  have hl : lv_has ls 6 [(0, .ref (am 0)), (1, .int (zI (c))), (2, .int (zI (m))), (3, .int (zI (d)))] := hl
  refine lv_aload_n (pc := 0) hx hb dX8_alter_0 rfl (lv_at hl 0 rfl) ?_
  refine lv_iconst (pc := 1) (v := zI 0) hx hb dX8_alter_1 rfl ?_
  refine zr_put (pc := 2) S hK (hP 0 (by decide)) rfl i_X8 tyX8 tyX8_ok nmX8 0 (by decide) (List.mem_of_getElem? (i := 1) rfl) rfl rfl rfl (Nat.le_of_ble_eq_true rfl) hS (hAin 0 (by decide)) dX8_alter_2 (fun H locs hO hz hk hS => ?_)
  have hP := zW.put hP hJ 0 (by decide) hO hk (mC_0_0 0)
  refine lv_aload_n (pc := 5) hx hb dX8_alter_5 rfl (lv_at hl 0 rfl) ?_
  refine lv_iload_n (pc := 6) hx hb dX8_alter_6 rfl (lv_at hl 1 rfl) ?_
  refine zr_vi (pc := 7) (As := [.int (zI (c))]) (rest := []) S (ct_X8_isCostume l D cI cT am ((su μ 0 0 0)) g (((su_ne (by decide) _ _).trans hg)) hI c (by omega)) (cwV 1 hts gX8_alter_X8_isCostume rfl rfl rfl (by decide +kernel) ⟨Nat.le_of_ble_eq_true rfl, Nat.le_of_ble_eq_true rfl⟩) zs0 hK hP (zr_recv hK (hP 0 (by decide)) rfl) rfl hl.1 rfl (Nat.le_of_ble_eq_true rfl) dX8_alter_7 ⟨Nat.le_of_ble_eq_true rfl, Nat.le_of_ble_eq_true rfl⟩ (fun r_7 hr_7 => ?_)
  rcases hr_7 with ⟨hb_7, rfl⟩ | ⟨hb_7, rfl⟩
  · refine zr_if_eq (pc := 10) (tgt := 43) hx hb dX8_alter_10 (by decide) (by decide) (fun z => absurd z (by decide)) (fun _ => ?_)
    refine lv_iload_n (pc := 13) hx hb dX8_alter_13 rfl (lv_at hl 2 rfl) ?_
    refine zr_i2l (pc := 14) hx hb dX8_alter_14 (by omega) ?_
    refine lv_lconst (pc := 15) (v := zL 0) hx hb dX8_alter_15 rfl ?_
    refine zr_ldc2 (pc := 16) (w := 2) hx hb hown (hts _ (List.mem_of_getElem? (i := 2) rfl)) dX8_alter_16 (by decide +kernel) ?_
    refine zr_si (pc := 19) (As := [.long (zL (m)), .long (zL (0)), .long (zL (2))]) (rest := []) S (ct_X8_in l D cI cT m 0 2 (by omega) (by decide) (by decide)) (va_cwS 3 hts gX8_alter_X8_in rfl rfl rfl (by decide +kernel) ⟨Nat.le_of_ble_eq_true rfl, Nat.le_of_ble_eq_true rfl⟩) zs0 hK trivial rfl hl.1 rfl (Nat.le_of_ble_eq_true rfl) dX8_alter_19 ⟨Nat.le_of_ble_eq_true rfl, Nat.le_of_ble_eq_true rfl⟩ (fun r_19 hr_19 => ?_)
    rcases hr_19 with ⟨hb_19, rfl⟩ | ⟨hb_19, rfl⟩
    · refine zr_if_eq (pc := 22) (tgt := 43) hx hb dX8_alter_22 (by decide) (by decide) (fun z => absurd z (by decide)) (fun _ => ?_)
      refine lv_iload_n (pc := 25) hx hb dX8_alter_25 rfl (lv_at hl 3 rfl) ?_
      refine zr_i2l (pc := 26) hx hb dX8_alter_26 (by omega) ?_
      refine zr_ldc2 (pc := 27) (w := (-10)) hx hb hown (hts _ (List.mem_of_getElem? (i := 3) rfl)) dX8_alter_27 (by decide +kernel) ?_
      refine zr_ldc2 (pc := 30) (w := 10) hx hb hown (hts _ (List.mem_of_getElem? (i := 4) rfl)) dX8_alter_30 (by decide +kernel) ?_
      refine zr_si (pc := 33) (As := [.long (zL (d)), .long (zL ((-10))), .long (zL (10))]) (rest := []) S (ct_X8_in l D cI cT d ((-10)) 10 (by omega) (by decide) (by decide)) (va_cwS 3 hts gX8_alter_X8_in rfl rfl rfl (by decide +kernel) ⟨Nat.le_of_ble_eq_true rfl, Nat.le_of_ble_eq_true rfl⟩) zs0 hK trivial rfl hl.1 rfl (Nat.le_of_ble_eq_true rfl) dX8_alter_33 ⟨Nat.le_of_ble_eq_true rfl, Nat.le_of_ble_eq_true rfl⟩ (fun r_33 hr_33 => ?_)
      rcases hr_33 with ⟨hb_33, rfl⟩ | ⟨hb_33, rfl⟩
      · refine zr_if_eq (pc := 36) (tgt := 43) hx hb dX8_alter_36 (by decide) (by decide) (fun z => absurd z (by decide)) (fun _ => ?_)
        refine lv_iload_n (pc := 39) hx hb dX8_alter_39 rfl (lv_at hl 3 rfl) ?_
        refine zr_if_ne (pc := 40) (tgt := 47) hx hb dX8_alter_40 (by decide) (by omega) (fun c_40 => ?_) (fun c_40 => ?_)
        · refine lv_aload_n (pc := 47) hx hb dX8_alter_47 rfl (lv_at hl 0 rfl) ?_
          refine lv_iload_n (pc := 48) hx hb dX8_alter_48 rfl (lv_at hl 1 rfl) ?_
          refine zr_vi (pc := 49) (As := [.int (zI (c))]) (rest := []) S (ct_X8_isAwayToday l D cI cT am ((su μ 0 0 0)) g (((su_ne (by decide) _ _).trans hg)) hI c (by omega) (by omega)) (cwV 1 hts gX8_alter_X8_isAwayToday rfl rfl rfl (by decide +kernel) ⟨Nat.le_of_ble_eq_true rfl, Nat.le_of_ble_eq_true rfl⟩) zs0 hK hP (zr_recv hK (hP 0 (by decide)) rfl) rfl hl.1 rfl (Nat.le_of_ble_eq_true rfl) dX8_alter_49 ⟨Nat.le_of_ble_eq_true rfl, Nat.le_of_ble_eq_true rfl⟩ (fun r_49 hr_49 => ?_)
          rcases hr_49 with ⟨hb_49, rfl⟩ | ⟨hb_49, rfl⟩
          · refine zr_if_ne (pc := 52) (tgt := 65) hx hb dX8_alter_52 (by decide) (by decide) (fun _ => ?_) (fun z => absurd z (by decide))
            refine lv_sipush (pc := 65) (v := zI (-2002)) hx hb dX8_alter_65 zc_sipush_m2002 ?_
            exact W.iret (v := zI ((-2002))) hx hb hr (fun tz ht hW => ⟨⟨zI ((-2002)), zI ((-2002)), rfl, rfl, by dsimp only; rw [ht]; exact ⟨_, _, _, _, (mR_sc hM 0 0 (by decide) (by decide)), oR_no ((tft (by omega)).trans (tff (fun q => by first | exact q.1 hb_49 | exact hb_59 q.2))) (by decide), hP⟩⟩, hS.F ht⟩) hS.2.2 dX8_alter_68
          · refine zr_if_ne (pc := 52) (tgt := 65) hx hb dX8_alter_52 (by decide) (by decide) (fun z => absurd z (by decide)) (fun _ => ?_)
            refine lv_aload_n (pc := 55) hx hb dX8_alter_55 rfl (lv_at hl 0 rfl) ?_
            refine lv_iload_n (pc := 56) hx hb dX8_alter_56 rfl (lv_at hl 1 rfl) ?_
            refine lv_iload_n (pc := 57) hx hb dX8_alter_57 rfl (lv_at hl 2 rfl) ?_
            refine lv_iload_n (pc := 58) hx hb dX8_alter_58 rfl (lv_at hl 3 rfl) ?_
            refine zr_vi (pc := 59) (As := [.int (zI (c)), .int (zI (m)), .int (zI (d))]) (rest := []) S (ct_X8_isAllowed l D cI cT am ((su μ 0 0 0)) g (((su_ne (by decide) _ _).trans hg)) hI c m d (by omega) (by omega) (by omega) (by omega) (by omega) (by omega)) (cwV 3 hts gX8_alter_X8_isAllowed rfl rfl rfl (by decide +kernel) ⟨Nat.le_of_ble_eq_true rfl, Nat.le_of_ble_eq_true rfl⟩) zs0 hK hP (zr_recv hK (hP 0 (by decide)) rfl) rfl hl.1 rfl (Nat.le_of_ble_eq_true rfl) dX8_alter_59 ⟨Nat.le_of_ble_eq_true rfl, Nat.le_of_ble_eq_true rfl⟩ (fun r_59 hr_59 => ?_)
            rcases hr_59 with ⟨hb_59, rfl⟩ | ⟨hb_59, rfl⟩
            · refine zr_if_ne (pc := 62) (tgt := 69) hx hb dX8_alter_62 (by decide) (by decide) (fun _ => ?_) (fun z => absurd z (by decide))
              have hna := iv_na hI (c := c) (by omega) (by omega)
              refine lv_aload_n (pc := 69) hx hb dX8_alter_69 rfl (lv_at hl 0 rfl) ?_
              refine lv_iload_n (pc := 70) hx hb dX8_alter_70 rfl (lv_at hl 1 rfl) ?_
              refine lv_bipush (pc := 71) (v := zI 7) hx hb dX8_alter_71 zc_bipush_7 ?_
              refine zr_vi (pc := 73) (As := [.int (zI (c)), .int (zI (7))]) (rest := []) S (ct_X8_of l D cI cT am ((su μ 0 0 0)) g (((su_ne (by decide) _ _).trans hg)) hI c 7 (by omega) (by omega) (by omega) (by omega)) (cwV 2 hts gX8_alter_X8_of rfl rfl rfl (by decide +kernel) ⟨Nat.le_of_ble_eq_true rfl, Nat.le_of_ble_eq_true rfl⟩) zs0 hK hP (zr_recv hK (hP 0 (by decide)) rfl) rfl hl.1 rfl (Nat.le_of_ble_eq_true rfl) dX8_alter_73 ⟨Nat.le_of_ble_eq_true rfl, Nat.le_of_ble_eq_true rfl⟩ (fun r_73 hr_73 => ?_)
              subst hr_73
              refine lv_istore (pc := 76) (lv' := [(4, .int (zI (gC g c 7))), (0, .ref (am 0)), (1, .int (zI (c))), (2, .int (zI (m))), (3, .int (zI (d)))]) hx hb dX8_alter_76 hl (by decide) rfl (fun ls hl => ?_)
              refine lv_iload (pc := 78) hx hb dX8_alter_78 (lv_at hl 0 rfl) ?_
              refine lv_bipush (pc := 80) (v := zI 6) hx hb dX8_alter_80 zc_bipush_6 ?_
              refine zr_icmp_ne (pc := 82) (tgt := 89) hx hb dX8_alter_82 (by decide) (by omega) (by decide) (fun c_82 => ?_) (fun c_82 => ?_)
              · refine lv_aload_n (pc := 89) hx hb dX8_alter_89 rfl (lv_at hl 1 rfl) ?_
                refine zr_vwv (pc := 90) (As := []) (rest := []) S (ct_X8_act l D cI cT H.size am ((su μ 0 0 0)) g n hs tl tx (mR_sc hM 0 0 (by decide) (by decide)) hI hJ) (cwV 0 hts gX8_alter_X8_act rfl rfl rfl (by decide +kernel) ⟨Nat.le_of_ble_eq_true rfl, Nat.le_of_ble_eq_true rfl⟩) zs0 hK hP (zr_recv hK (hP 0 (by decide)) rfl) hS (fun q h => h.elim (fun ⟨k, k0, e⟩ => by rw [e]; exact hAin k k0) (fun z => hAn q (Nat.le_trans hS.1 z))) rfl hl.1 rfl (Nat.le_of_ble_eq_true rfl) dX8_alter_90 ⟨Nat.le_of_ble_eq_true rfl, Nat.le_of_ble_eq_true rfl⟩ (fun H locs hG hz hk hS => ?_)
                obtain ⟨μ11, ha11, hM11, hP⟩ := hG
                refine lv_aload_n (pc := 93) hx hb dX8_alter_93 rfl (lv_at hl 1 rfl) ?_
                refine lv_iload_n (pc := 94) hx hb dX8_alter_94 rfl (lv_at hl 2 rfl) ?_
                refine lv_bipush (pc := 95) (v := zI 8) hx hb dX8_alter_95 zc_bipush_8 ?_
                refine lv_iconst (pc := 97) (v := zI 2) hx hb dX8_alter_97 rfl ?_
                refine lv_iload (pc := 98) hx hb dX8_alter_98 (lv_at hl 0 rfl) ?_
                refine zr_imul (pc := 100) (d := 2 * (gC g c 7)) hx hb dX8_alter_100 rfl ?_
                refine zr_iadd (pc := 101) (d := 8 + (2 * (gC g c 7))) hx hb dX8_alter_101 rfl ?_
                refine lv_iload_n (pc := 102) hx hb dX8_alter_102 rfl (lv_at hl 3 rfl) ?_
                refine zr_vwv (pc := 103) (As := [.int (zI (c)), .int (zI (8 + (2 * (gC g c 7)))), .int (zI (m))]) (rest := []) S (ct_X8_lay l D cI cT H.size am μ11 g hM11.1 hJ c (8 + (2 * (gC g c 7))) m (by omega) (by omega) (by omega) (by omega)) (cwV 3 hts gX8_alter_X8_lay rfl rfl rfl (by decide +kernel) ⟨Nat.le_of_ble_eq_true rfl, Nat.le_of_ble_eq_true rfl⟩) zs0 hK hP (zr_recv hK (hP 0 (by decide)) rfl) hS (fun q h => h.elim (fun ⟨k, k0, e⟩ => by rw [e]; exact hAin k k0) (fun z => hAn q (Nat.le_trans hS.1 z))) rfl hl.1 rfl (Nat.le_of_ble_eq_true rfl) dX8_alter_103 ⟨Nat.le_of_ble_eq_true rfl, Nat.le_of_ble_eq_true rfl⟩ (fun H locs hG hz hk hS => ?_)
                have hP := hG
                refine lv_aload_n (pc := 106) hx hb dX8_alter_106 rfl (lv_at hl 1 rfl) ?_
                refine lv_iload_n (pc := 107) hx hb dX8_alter_107 rfl (lv_at hl 2 rfl) ?_
                refine lv_bipush (pc := 108) (v := zI 8) hx hb dX8_alter_108 zc_bipush_8 ?_
                refine lv_iconst (pc := 110) (v := zI 2) hx hb dX8_alter_110 rfl ?_
                refine lv_iload (pc := 111) hx hb dX8_alter_111 (lv_at hl 0 rfl) ?_
                refine zr_imul (pc := 113) (d := 2 * (gC g c 7)) hx hb dX8_alter_113 rfl ?_
                refine zr_iadd (pc := 114) (d := 8 + (2 * (gC g c 7))) hx hb dX8_alter_114 rfl ?_
                refine lv_iconst (pc := 115) (v := zI 1) hx hb dX8_alter_115 rfl ?_
                refine zr_iadd (pc := 116) (d := (8 + (2 * (gC g c 7))) + 1) hx hb dX8_alter_116 rfl ?_
                refine lv_iload_n (pc := 117) hx hb dX8_alter_117 rfl (lv_at hl 4 rfl) ?_
                refine zr_vwv (pc := 118) (As := [.int (zI (c)), .int (zI ((8 + (2 * (gC g c 7))) + 1)), .int (zI (d))]) (rest := []) S (ct_X8_lay l D cI cT H.size am ((su μ11 1 (12 + 20 * c + (8 + (2 * (gC g c 7)))) m)) ((zu g (12 + 20 * c + (8 + (2 * (gC g c 7)))) m)) (((su_eq _ _ _ _).trans (congrArg (fun fz => zu fz (12 + 20 * c + (8 + (2 * (gC g c 7)))) m) hM11.1))) hJ c ((8 + (2 * (gC g c 7))) + 1) d (by omega) (by omega) (by omega) (by omega)) (cwV 3 hts gX8_alter_X8_lay rfl rfl rfl (by decide +kernel) ⟨Nat.le_of_ble_eq_true rfl, Nat.le_of_ble_eq_true rfl⟩) zs0 hK hP (zr_recv hK (hP 0 (by decide)) rfl) hS (fun q h => h.elim (fun ⟨k, k0, e⟩ => by rw [e]; exact hAin k k0) (fun z => hAn q (Nat.le_trans hS.1 z))) rfl hl.1 rfl (Nat.le_of_ble_eq_true rfl) dX8_alter_118 ⟨Nat.le_of_ble_eq_true rfl, Nat.le_of_ble_eq_true rfl⟩ (fun H locs hG hz hk hS => ?_)
                have hP := hG
                refine lv_aload_n (pc := 121) hx hb dX8_alter_121 rfl (lv_at hl 1 rfl) ?_
                refine lv_iload_n (pc := 122) hx hb dX8_alter_122 rfl (lv_at hl 2 rfl) ?_
                refine lv_bipush (pc := 123) (v := zI 7) hx hb dX8_alter_123 zc_bipush_7 ?_
                refine lv_iload (pc := 125) hx hb dX8_alter_125 (lv_at hl 0 rfl) ?_
                refine lv_iconst (pc := 127) (v := zI 1) hx hb dX8_alter_127 rfl ?_
                refine zr_iadd (pc := 128) (d := (gC g c 7) + 1) hx hb dX8_alter_128 rfl ?_
                refine zr_vwv (pc := 129) (As := [.int (zI (c)), .int (zI (7)), .int (zI ((gC g c 7) + 1))]) (rest := []) S (ct_X8_lay l D cI cT H.size am ((su (su μ11 1 (12 + 20 * c + (8 + (2 * (gC g c 7)))) m) 1 (12 + 20 * c + ((8 + (2 * (gC g c 7))) + 1)) d)) ((zu ((zu g (12 + 20 * c + (8 + (2 * (gC g c 7)))) m)) (12 + 20 * c + ((8 + (2 * (gC g c 7))) + 1)) d)) (((su_eq _ _ _ _).trans (congrArg (fun fz => zu fz (12 + 20 * c + ((8 + (2 * (gC g c 7))) + 1)) d) ((su_eq _ _ _ _).trans (congrArg (fun fz => zu fz (12 + 20 * c + (8 + (2 * (gC g c 7)))) m) hM11.1))))) hJ c 7 ((gC g c 7) + 1) (by omega) (by omega) (by decide) (by decide)) (cwV 3 hts gX8_alter_X8_lay rfl rfl rfl (by decide +kernel) ⟨Nat.le_of_ble_eq_true rfl, Nat.le_of_ble_eq_true rfl⟩) zs0 hK hP (zr_recv hK (hP 0 (by decide)) rfl) hS (fun q h => h.elim (fun ⟨k, k0, e⟩ => by rw [e]; exact hAin k k0) (fun z => hAn q (Nat.le_trans hS.1 z))) rfl hl.1 rfl (Nat.le_of_ble_eq_true rfl) dX8_alter_129 ⟨Nat.le_of_ble_eq_true rfl, Nat.le_of_ble_eq_true rfl⟩ (fun H locs hG hz hk hS => ?_)
                have hP := hG
                refine lv_bipush (pc := 132) (v := zI 10) hx hb dX8_alter_132 zc_bipush_10 ?_
                refine lv_iconst (pc := 134) (v := zI 5) hx hb dX8_alter_134 rfl ?_
                refine lv_iload_n (pc := 135) hx hb dX8_alter_135 rfl (lv_at hl 4 rfl) ?_
                refine lv_iconst (pc := 136) (v := zI 0) hx hb dX8_alter_136 rfl ?_
                refine zr_si (pc := 137) (As := [.int (zI (d)), .int (zI (0))]) (rest := [.int (zI (5)), .int (zI (10))]) S (ct_X8_distance l D cI cT d 0 (by omega) (by decide)) (va_cwS 2 hts gX8_alter_X8_distance rfl rfl rfl (by decide +kernel) ⟨Nat.le_of_ble_eq_true rfl, Nat.le_of_ble_eq_true rfl⟩) zs0 hK trivial rfl hl.1 rfl (Nat.le_of_ble_eq_true rfl) dX8_alter_137 ⟨Nat.le_of_ble_eq_true rfl, Nat.le_of_ble_eq_true rfl⟩ (fun r_137 hr_137 => ?_)
                subst hr_137
                have hz_137 := zabs_nn (d - 0)
                have ez : zabs (d - 0) = zabs d := congrArg zabs (Int.sub_zero d)
                refine zr_imul (pc := 140) (d := 5 * (zabs (d - 0))) hx hb dX8_alter_140 rfl ?_
                refine zr_iadd (pc := 141) (d := 10 + (5 * (zabs (d - 0)))) hx hb dX8_alter_141 rfl ?_
                refine lv_istore (pc := 142) (lv' := [(5, .int (zI (10 + (5 * (zabs (d - 0)))))), (4, .int (zI (gC g c 7))), (0, .ref (am 0)), (1, .int (zI (c))), (2, .int (zI (m))), (3, .int (zI (d)))]) hx hb dX8_alter_142 hl (by decide) rfl (fun ls hl => ?_)
                refine lv_aload_n (pc := 144) hx hb dX8_alter_144 rfl (lv_at hl 2 rfl) ?_
                refine zr_get (pc := 145) S hK (hP 0 (by decide)) rfl i_X8 1 (by decide) (List.mem_of_getElem? (i := 5) rfl) rfl dX8_alter_145 ?_
                refine lv_iconst (pc := 148) (v := zI 4) hx hb dX8_alter_148 rfl ?_
                refine lv_dup2_11 (pc := 149) hx hb dX8_alter_149 rfl rfl ?_
                refine zr_ald (pc := 150) (n := 572) hx hb (zAr_of (zK_int hK) (hP 1 (by decide))) (by decide) (by decide) (by decide) dX8_alter_150 ?_
                refine zr_top (b := g 4) ((congrFun ((su_eq _ _ _ _).trans (congrArg (fun fz => zu fz (12 + 20 * c + 7) ((gC g c 7) + 1)) ((su_eq _ _ _ _).trans (congrArg (fun fz => zu fz (12 + 20 * c + ((8 + (2 * (gC g c 7))) + 1)) d) ((su_eq _ _ _ _).trans (congrArg (fun fz => zu fz (12 + 20 * c + (8 + (2 * (gC g c 7)))) m) hM11.1)))))) _).trans (by simp only [zu]; rw [if_neg (by omega), if_neg (by omega), if_neg (by omega)])) ?_
                refine lv_iload (pc := 151) hx hb dX8_alter_151 (lv_at hl 0 rfl) ?_
                refine zr_iadd (pc := 153) (d := (g 4) + (10 + (5 * (zabs (d - 0))))) hx hb dX8_alter_153 rfl ?_
                refine zr_ast (pc := 154) (k := 572) hx hb hK (hP 1 (by decide)) (by decide) (by decide) (by decide) hS (hAin 1 (by decide)) dX8_alter_154 (fun H locs hO hz hk hS => ?_)
                have hP := zW.put hP hJ 1 (by decide) hO hk (mC_a 1 (by decide) _ _)
                refine lv_iload (pc := 155) hx hb dX8_alter_155 (lv_at hl 0 rfl) ?_
                exact W.iret (v := zI (10 + (5 * (zabs (d - 0))))) hx hb hr (fun tz ht hW => ⟨⟨zI (10 + (5 * (zabs (d - 0)))), zI (10 + (5 * (zabs (d - 0)))), rfl, rfl, by dsimp only; rw [ht]; exact ⟨_, _, _, _, (mR_put (mR_put (mR_put (mR_put hM11 (12 + 20 * c + (8 + (2 * (gC g c 7)))) m) (12 + 20 * c + ((8 + (2 * (gC g c 7))) + 1)) d) (12 + 20 * c + 7) ((gC g c 7) + 1)) 4 ((g 4) + (10 + (5 * (zabs (d - 0)))))), oR_ok ((tft (by omega)).trans ((tft ⟨hb_49, hb_59⟩).trans (tft (by omega)))) (by omega) (by rw [ez]; rfl), hP⟩⟩, hS.F ht⟩) hS.2.2 dX8_alter_157
              · refine lv_sipush (pc := 85) (v := zI (-2003)) hx hb dX8_alter_85 zc_sipush_m2003 ?_
                exact W.iret (v := zI ((-2003))) hx hb hr (fun tz ht hW => ⟨⟨zI ((-2003)), zI ((-2003)), rfl, rfl, by dsimp only; rw [ht]; exact ⟨_, _, _, _, (mR_sc hM 0 0 (by decide) (by decide)), oR_no ((tft (by omega)).trans ((tft ⟨hb_49, hb_59⟩).trans (tff (by omega)))) (by decide), hP⟩⟩, hS.F ht⟩) hS.2.2 dX8_alter_88
            · refine zr_if_ne (pc := 62) (tgt := 69) hx hb dX8_alter_62 (by decide) (by decide) (fun z => absurd z (by decide)) (fun _ => ?_)
              refine lv_sipush (pc := 65) (v := zI (-2002)) hx hb dX8_alter_65 zc_sipush_m2002 ?_
              exact W.iret (v := zI ((-2002))) hx hb hr (fun tz ht hW => ⟨⟨zI ((-2002)), zI ((-2002)), rfl, rfl, by dsimp only; rw [ht]; exact ⟨_, _, _, _, (mR_sc hM 0 0 (by decide) (by decide)), oR_no ((tft (by omega)).trans (tff (fun q => by first | exact q.1 hb_49 | exact hb_59 q.2))) (by decide), hP⟩⟩, hS.F ht⟩) hS.2.2 dX8_alter_68
        · refine lv_sipush (pc := 43) (v := zI (-2001)) hx hb dX8_alter_43 zc_sipush_m2001 ?_
          exact W.iret (v := zI ((-2001))) hx hb hr (fun tz ht hW => ⟨⟨zI ((-2001)), zI ((-2001)), rfl, rfl, by dsimp only; rw [ht]; exact ⟨_, _, _, _, (mR_sc hM 0 0 (by decide) (by decide)), oR_no (tff (fun q => by omega)) (by decide), hP⟩⟩, hS.F ht⟩) hS.2.2 dX8_alter_46
      · refine zr_if_eq (pc := 36) (tgt := 43) hx hb dX8_alter_36 (by decide) (by decide) (fun _ => ?_) (fun z => absurd z (by decide))
        refine lv_sipush (pc := 43) (v := zI (-2001)) hx hb dX8_alter_43 zc_sipush_m2001 ?_
        exact W.iret (v := zI ((-2001))) hx hb hr (fun tz ht hW => ⟨⟨zI ((-2001)), zI ((-2001)), rfl, rfl, by dsimp only; rw [ht]; exact ⟨_, _, _, _, (mR_sc hM 0 0 (by decide) (by decide)), oR_no (tff (fun q => by omega)) (by decide), hP⟩⟩, hS.F ht⟩) hS.2.2 dX8_alter_46
    · refine zr_if_eq (pc := 22) (tgt := 43) hx hb dX8_alter_22 (by decide) (by decide) (fun _ => ?_) (fun z => absurd z (by decide))
      refine lv_sipush (pc := 43) (v := zI (-2001)) hx hb dX8_alter_43 zc_sipush_m2001 ?_
      exact W.iret (v := zI ((-2001))) hx hb hr (fun tz ht hW => ⟨⟨zI ((-2001)), zI ((-2001)), rfl, rfl, by dsimp only; rw [ht]; exact ⟨_, _, _, _, (mR_sc hM 0 0 (by decide) (by decide)), oR_no (tff (fun q => by omega)) (by decide), hP⟩⟩, hS.F ht⟩) hS.2.2 dX8_alter_46
  · refine zr_if_eq (pc := 10) (tgt := 43) hx hb dX8_alter_10 (by decide) (by decide) (fun _ => ?_) (fun z => absurd z (by decide))
    refine lv_sipush (pc := 43) (v := zI (-2001)) hx hb dX8_alter_43 zc_sipush_m2001 ?_
    exact W.iret (v := zI ((-2001))) hx hb hr (fun tz ht hW => ⟨⟨zI ((-2001)), zI ((-2001)), rfl, rfl, by dsimp only; rw [ht]; exact ⟨_, _, _, _, (mR_sc hM 0 0 (by decide) (by decide)), oR_no (tff (fun q => by omega)) (by decide), hP⟩⟩, hS.F ht⟩) hS.2.2 dX8_alter_46
