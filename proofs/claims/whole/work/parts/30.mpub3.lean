set_option maxHeartbeats 4000000 in
set_option maxRecDepth 100000 in
theorem ct_X8_perform (l : Launch) (D : va_G) (cI cT : ClassId) (sz : Nat) (am : Nat → Nat) (μ : Nat → Int → Int) (g : Int → Int) (n : Nat) (hs : Nat → Int → Int) (tl : Int) (tx : Int → Int) (hM : mR μ g n hs tl tx) (hI : Inv g) (hJ : zJ am 5)   : zMi l yX8_perform wsX8_perform ({ frames := 6, cells := 0, slots := 0, locals := 143 }) D cI cT [.ref (am 0)] sz (fun _ H => zW D am 5 (mC cI am μ) H) (fun rr H => ∃ (μ' : Nat → Int → Int) (g' : Int → Int) (n' : Nat) (hs' : Nat → Int → Int), mR μ' g' n' hs' tl tx ∧ oR (ePerf g) (g 3 + 1) (zu (zu (soG g (g 0).toNat) 7 (g 7 + 1)) 3 (g 3 + 1)) g n hs g' n' hs' rr ∧ zW D am 5 (mC cI am μ') H) (zR am 5 sz) := by
  refine Met.ofW (cc := cX8_perform) (maxL := 3) (ret := (some .int)) (by decide) rfl ?_
  intro p_ e_ s m_ args below meth c_ s₁ B hml hv
  obtain ⟨rfl, hsz, hK, hF⟩ := hv
  have hx := B.exec
  have hb := B.bytes
  have hr := B.returns
  have hts := atoms_spec (ws := wsX8_perform) B.pre
  have hown : s.vm.findClass RX8 = some m_.cls := findClass_of_methodNamed B.named
  have hlocks := B.notSynchronized
  have S : CallFix p_ m_ c_ cX8_perform 3 s _ wsX8_perform RX8 := ⟨hx, hb, hml, hown, hts⟩
  have i_X8 : ∀ w ∈ u_ws RX8 TX8 12, w ∈ wsX8_perform := fun _ h => List.mem_cons_of_mem _ (List.mem_append_right _ h)
  subst hsz
  generalize hAe : (zR am 5 s.heap.size) = A
  have hAn : ∀ q : Nat, s.heap.size ≤ q → A q := fun q h => by rw [← hAe]; exact Or.inr h
  obtain ⟨H, hHe⟩ : ∃ H : Heap, H = s.heap := ⟨_, rfl⟩
  rw [← hHe] at hF ⊢
  have hS : va_S A s.heap H [] := by rw [hHe]; exact va_S.rf
  have hP := hF
  have hg := hM.1
  have hAin : ∀ k : Nat, k < 5 → A (am k) := fun k hk => by rw [← hAe]; exact Or.inl ⟨k, hk, rfl⟩
  have hnC := iv_nC hI
  have hnA := iv_nA hI
  have hto := iv_to hI
  have hl := lv_entry ([.ref (am 0)]) (n := 3) (Nat.le_of_ble_eq_true rfl)
  rw [lg_entry_eq]
  generalize (lg_sl ([.ref (am 0)]) ++ List.replicate (3 - (lg_sl ([.ref (am 0)])).length) Slot.unset).toArray = ls at hl ⊢
  have hl : lv_has ls 3 [(0, .ref (am 0))] := hl
  refine lv_aload_n (pc := 0) hx hb dX8_perform_0 rfl (lv_at hl 0 rfl) ?_
  refine lv_iconst (pc := 1) (v := zI 0) hx hb dX8_perform_1 rfl ?_
  refine zr_put (pc := 2) S hK (hP 0 (by decide)) rfl i_X8 tyX8 tyX8_ok nmX8 0 (by decide) (List.mem_of_getElem? (i := 1) rfl) rfl rfl rfl (Nat.le_of_ble_eq_true rfl) hS (hAin 0 (by decide)) dX8_perform_2 (fun H locs hO hz hk hS => ?_)
  have hP := zW.put hP hJ 0 (by decide) hO hk (mC_0_0 0)
  refine lv_iconst (pc := 5) (v := zI 0) hx hb dX8_perform_5 rfl ?_
  refine lv_istore_n (pc := 6) (lv' := [(1, .int (zI (0))), (0, .ref (am 0))]) hx hb dX8_perform_6 rfl hl (by decide) rfl (fun ls hl => ?_)
  refine zr_loop1 (fun (k : Nat) => ((k : Int) ≤ 5) ∧ (∀ j : Int, 0 ≤ j → j < (k : Int) → prb g j = 0)) (fun (k : Nat) => (5 : Int).toNat - k) (fun (k : Nat) => [(0, .ref (am 0)), (1, .int (zI ((k : Int))))]) ?_ (0) (⟨by omega, fa_0⟩) (lv_sub hl [1, 0] rfl)
  intro k hinv ih_7 ls hl
  obtain ⟨h_k, h_n⟩ := hinv
  refine lv_iload_n (pc := 7) hx hb dX8_perform_7 rfl (lv_at hl 1 rfl) ?_
  refine lv_iconst (pc := 8) (v := zI 5) hx hb dX8_perform_8 rfl ?_
  refine zr_icmp_ge (pc := 9) (tgt := 30) hx hb dX8_perform_9 (by decide) (by omega) (by decide) (fun c_9 => ?_) (fun c_9 => ?_)
  · refine lv_aload_n (pc := 30) hx hb dX8_perform_30 rfl (lv_at hl 0 rfl) ?_
    refine zr_get (pc := 31) S hK (hP 0 (by decide)) rfl i_X8 1 (by decide) (List.mem_of_getElem? (i := 2) rfl) rfl dX8_perform_31 ?_
    refine lv_iconst (pc := 34) (v := zI 3) hx hb dX8_perform_34 rfl ?_
    refine zr_ald (pc := 35) (n := 572) hx hb (zAr_of (zK_int hK) (hP 1 (by decide))) (by decide) (by decide) (by decide) dX8_perform_35 ?_
    refine zr_top (b := g 3) (congrFun ((su_ne (by decide) _ _).trans hg) _) ?_
    refine lv_sipush (pc := 36) (v := zI 300) hx hb dX8_perform_36 zc_sipush_300 ?_
    refine zr_icmp_ne (pc := 39) (tgt := 46) hx hb dX8_perform_39 (by decide) (by omega) (by decide) (fun c_39 => ?_) (fun c_39 => ?_)
    · refine lv_aload_n (pc := 46) hx hb dX8_perform_46 rfl (lv_at hl 0 rfl) ?_
      refine zr_vwv (pc := 47) (As := []) (rest := []) S (ct_X8_act l D cI cT H.size am ((su μ 0 0 0)) g n hs tl tx (mR_sc hM 0 0 (by decide) (by decide)) hI hJ) (cwV 0 hts gX8_perform_X8_act rfl rfl rfl (by decide +kernel) ⟨Nat.le_of_ble_eq_true rfl, Nat.le_of_ble_eq_true rfl⟩) zs0 hK hP (zr_recv hK (hP 0 (by decide)) rfl) hS (fun q h => h.elim (fun ⟨k, k0, e⟩ => by rw [e]; exact hAin k k0) (fun z => hAn q (Nat.le_trans hS.1 z))) rfl hl.1 rfl (Nat.le_of_ble_eq_true rfl) dX8_perform_47 ⟨Nat.le_of_ble_eq_true rfl, Nat.le_of_ble_eq_true rfl⟩ (fun H locs hG hz hk hS => ?_)
      obtain ⟨μ15, ha15, hM15, hP⟩ := hG
      refine lv_iconst (pc := 50) (v := zI 0) hx hb dX8_perform_50 rfl ?_
      refine lv_istore_n (pc := 51) (lv' := [(1, .int (zI (0))), (0, .ref (am 0))]) hx hb dX8_perform_51 rfl hl (by decide) rfl (fun ls hl => ?_)
      refine zr_hloop1 (fun (i : Nat) (H : Heap) => ((i : Int) ≤ g 0) ∧ (zW D am 5 (mC cI am (va_up μ15 1 (soG g i))) H)) (fun (i : Nat) => (g 0 : Int).toNat - i) (fun (i : Nat) => [(0, .ref (am 0)), (1, .int (zI ((i : Int))))]) ?_ (0) (⟨by omega, by rw [show soG g 0 = μ15 1 from Eq.symm (hM15.1), va_up_id]; exact hP⟩) hS (lv_sub hl [1, 0] rfl)
      intro i H locs hinv hS ih_52 ls hl
      obtain ⟨h_i, hP⟩ := hinv
      obtain ⟨hI2, hg0⟩ := inv_so hI i h_i
      have hg6 : ∀ k : Int, (i : Int) ≤ k → gC (soG g i) k 6 = gC g k 6 := fun k hk => soG_o g i (fun j j0 j1 => by omega)
      have hsc : ∀ c : Int, scn (soG g i) c = scn g c := fun c => scn_same (fun j hj => soG_o g i (fun k k0 k1 => by omega)) c
      refine lv_iload_n (pc := 52) hx hb dX8_perform_52 rfl (lv_at hl 1 rfl) ?_
      refine lv_aload_n (pc := 53) hx hb dX8_perform_53 rfl (lv_at hl 0 rfl) ?_
      refine zr_get (pc := 54) S hK (hP 0 (by decide)) rfl i_X8 1 (by decide) (List.mem_of_getElem? (i := 2) rfl) rfl dX8_perform_54 ?_
      refine lv_iconst (pc := 57) (v := zI 0) hx hb dX8_perform_57 rfl ?_
      refine zr_ald (pc := 58) (n := 572) hx hb (zAr_of (zK_int hK) (hP 1 (by decide))) (by decide) (by decide) (by decide) dX8_perform_58 ?_
      refine zr_top (b := (soG g i) 0) (congrFun (va_up_self ..) _) ?_
      refine zr_icmp_ge (pc := 59) (tgt := 101) hx hb dX8_perform_59 (by decide) (by omega) (by omega) (fun c_59 => ?_) (fun c_59 => ?_)
      · rw [hg0] at c_59
        have e101 : i = (g 0).toNat := by omega
        subst e101
        refine lv_aload_n (pc := 101) hx hb dX8_perform_101 rfl (lv_at hl 0 rfl) ?_
        refine zr_get (pc := 102) S hK (hP 0 (by decide)) rfl i_X8 1 (by decide) (List.mem_of_getElem? (i := 2) rfl) rfl dX8_perform_102 ?_
        refine lv_bipush (pc := 105) (v := zI 7) hx hb dX8_perform_105 zc_bipush_7 ?_
        refine lv_dup2_11 (pc := 107) hx hb dX8_perform_107 rfl rfl ?_
        refine zr_ald (pc := 108) (n := 572) hx hb (zAr_of (zK_int hK) (hP 1 (by decide))) (by decide) (by decide) (by decide) dX8_perform_108 ?_
        refine zr_top (b := g 7) ((congrFun (va_up_self ..) _).trans (soG_o g _ (fun k k0 k1 => by omega))) ?_
        refine lv_iconst (pc := 109) (v := zI 1) hx hb dX8_perform_109 rfl ?_
        refine zr_iadd (pc := 110) (d := (g 7) + 1) hx hb dX8_perform_110 rfl ?_
        refine zr_ast (pc := 111) (k := 572) hx hb hK (hP 1 (by decide)) (by decide) (by decide) (by decide) hS (hAin 1 (by decide)) dX8_perform_111 (fun H locs hO hz hk hS => ?_)
        have hP := zW.put hP hJ 1 (by decide) hO hk (mC_a 1 (by decide) _ _)
        refine lv_aload_n (pc := 112) hx hb dX8_perform_112 rfl (lv_at hl 0 rfl) ?_
        refine zr_get (pc := 113) S hK (hP 0 (by decide)) rfl i_X8 1 (by decide) (List.mem_of_getElem? (i := 2) rfl) rfl dX8_perform_113 ?_
        refine lv_iconst (pc := 116) (v := zI 3) hx hb dX8_perform_116 rfl ?_
        refine lv_dup2_11 (pc := 117) hx hb dX8_perform_117 rfl rfl ?_
        refine zr_ald (pc := 118) (n := 572) hx hb (zAr_of (zK_int hK) (hP 1 (by decide))) (by decide) (by decide) (by decide) dX8_perform_118 ?_
        refine zr_top (b := g 3) ((congrFun ((su_eq _ _ _ _).trans (congrArg (fun fz => zu fz 7 ((g 7) + 1)) (va_up_self ..))) _).trans ((zu_n (by decide)).trans (soG_o g _ (fun k k0 k1 => by omega)))) ?_
        refine lv_iconst (pc := 119) (v := zI 1) hx hb dX8_perform_119 rfl ?_
        refine zr_iadd (pc := 120) (d := (g 3) + 1) hx hb dX8_perform_120 rfl ?_
        refine zr_ast (pc := 121) (k := 572) hx hb hK (hP 1 (by decide)) (by decide) (by decide) (by decide) hS (hAin 1 (by decide)) dX8_perform_121 (fun H locs hO hz hk hS => ?_)
        have hP := zW.put hP hJ 1 (by decide) hO hk (mC_a 1 (by decide) _ _)
        refine lv_aload_n (pc := 122) hx hb dX8_perform_122 rfl (lv_at hl 0 rfl) ?_
        refine zr_get (pc := 123) S hK (hP 0 (by decide)) rfl i_X8 1 (by decide) (List.mem_of_getElem? (i := 2) rfl) rfl dX8_perform_123 ?_
        refine lv_iconst (pc := 126) (v := zI 3) hx hb dX8_perform_126 rfl ?_
        refine zr_ald (pc := 127) (n := 572) hx hb (zAr_of (zK_int hK) (hP 1 (by decide))) (by decide) (by decide) (by decide) dX8_perform_127 ?_
        refine zr_top (b := g 3 + 1) ((congrFun ((su_eq _ _ _ _).trans (congrArg (fun fz => zu fz 3 ((g 3) + 1)) ((su_eq _ _ _ _).trans (congrArg (fun fz => zu fz 7 ((g 7) + 1)) (va_up_self ..))))) _).trans (if_pos rfl)) ?_
        exact W.iret (v := zI (g 3 + 1)) hx hb hr (fun tz ht hW => ⟨⟨zI (g 3 + 1), zI (g 3 + 1), rfl, rfl, by dsimp only; rw [ht]; exact ⟨_, _, _, _, (mR_put (mR_put (mR_g hM15 _) 7 ((g 7) + 1)) 3 ((g 3) + 1)), oR_ok ((tft (fun j j0 j1 => h_n j j0 (by omega))).trans (tft (by omega))) (rfl) (rfl), hP⟩⟩, hS.F ht⟩) hS.2.2 dX8_perform_128
      · rw [hg0] at c_59
        have hdi := iv_di hI2 (c := (i : Int)) (by omega) (by omega)
        refine lv_aload_n (pc := 62) hx hb dX8_perform_62 rfl (lv_at hl 0 rfl) ?_
        refine lv_iload_n (pc := 63) hx hb dX8_perform_63 rfl (lv_at hl 1 rfl) ?_
        refine lv_bipush (pc := 64) (v := zI 6) hx hb dX8_perform_64 zc_bipush_6 ?_
        refine zr_vi (pc := 66) (As := [.int (zI ((i : Int))), .int (zI (6))]) (rest := []) S (ct_X8_of l D cI cT am ((va_up μ15 1 (soG g i))) ((soG g i)) ((va_up_self ..)) hI2 ((i : Int)) 6 (by omega) (by omega) (by omega) (by omega)) (cwV 2 hts gX8_perform_X8_of rfl rfl rfl (by decide +kernel) ⟨Nat.le_of_ble_eq_true rfl, Nat.le_of_ble_eq_true rfl⟩) zs0 hK hP (zr_recv hK (hP 0 (by decide)) rfl) rfl hl.1 rfl (Nat.le_of_ble_eq_true rfl) dX8_perform_66 ⟨Nat.le_of_ble_eq_true rfl, Nat.le_of_ble_eq_true rfl⟩ (fun r_66 hr_66 => ?_)
        subst hr_66
        refine lv_aload_n (pc := 69) hx hb dX8_perform_69 rfl (lv_at hl 0 rfl) ?_
        refine lv_iload_n (pc := 70) hx hb dX8_perform_70 rfl (lv_at hl 1 rfl) ?_
        refine zr_vi (pc := 71) (As := [.int (zI ((i : Int)))]) (rest := [.int (zI (gC ((soG g i)) ((i : Int)) 6))]) S (ct_X8_scenesOf l D cI cT am ((va_up μ15 1 (soG g i))) ((soG g i)) ((va_up_self ..)) hI2 ((i : Int)) (by omega) (by omega)) (cwV 1 hts gX8_perform_X8_scenesOf rfl rfl rfl (by decide +kernel) ⟨Nat.le_of_ble_eq_true rfl, Nat.le_of_ble_eq_true rfl⟩) zs0 hK hP (zr_recv hK (hP 0 (by decide)) rfl) rfl hl.1 rfl (Nat.le_of_ble_eq_true rfl) dX8_perform_71 ⟨Nat.le_of_ble_eq_true rfl, Nat.le_of_ble_eq_true rfl⟩ (fun r_71 hr_71 => ?_)
        subst hr_71
        have hs_71 := scn_bd ((soG g i)) (((i : Int)))
        refine zr_iadd (pc := 74) (d := (gC ((soG g i)) ((i : Int)) 6) + (scn ((soG g i)) ((i : Int)))) hx hb dX8_perform_74 rfl ?_
        refine lv_istore_n (pc := 75) (lv' := [(2, .int (zI ((gC ((soG g i)) ((i : Int)) 6) + (scn ((soG g i)) ((i : Int)))))), (0, .ref (am 0)), (1, .int (zI ((i : Int))))]) hx hb dX8_perform_75 rfl hl (by decide) rfl (fun ls hl => ?_)
        refine lv_aload_n (pc := 76) hx hb dX8_perform_76 rfl (lv_at hl 1 rfl) ?_
        refine lv_iload_n (pc := 77) hx hb dX8_perform_77 rfl (lv_at hl 2 rfl) ?_
        refine lv_bipush (pc := 78) (v := zI 6) hx hb dX8_perform_78 zc_bipush_6 ?_
        refine lv_iload_n (pc := 80) hx hb dX8_perform_80 rfl (lv_at hl 0 rfl) ?_
        refine lv_bipush (pc := 81) (v := zI 9) hx hb dX8_perform_81 zc_bipush_9 ?_
        refine zr_icmp_le (pc := 83) (tgt := 91) hx hb dX8_perform_83 (by decide) (by omega) (by decide) (fun c_83 => ?_) (fun c_83 => ?_)
        · refine lv_iload_n (pc := 91) hx hb dX8_perform_91 rfl (lv_at hl 0 rfl) ?_
          refine zr_vwv (pc := 92) (As := [.int (zI ((i : Int))), .int (zI (6)), .int (zI ((gC ((soG g i)) ((i : Int)) 6) + (scn ((soG g i)) ((i : Int)))))]) (rest := []) S (ct_X8_lay l D cI cT H.size am ((va_up μ15 1 (soG g i))) ((soG g i)) ((va_up_self ..)) hJ ((i : Int)) 6 ((gC ((soG g i)) ((i : Int)) 6) + (scn ((soG g i)) ((i : Int)))) (by omega) (by omega) (by decide) (by decide)) (cwV 3 hts gX8_perform_X8_lay rfl rfl rfl (by decide +kernel) ⟨Nat.le_of_ble_eq_true rfl, Nat.le_of_ble_eq_true rfl⟩) zs0 hK hP (zr_recv hK (hP 0 (by decide)) rfl) hS (fun q h => h.elim (fun ⟨k, k0, e⟩ => by rw [e]; exact hAin k k0) (fun z => hAn q (Nat.le_trans hS.1 z))) rfl hl.1 rfl (Nat.le_of_ble_eq_true rfl) dX8_perform_92 ⟨Nat.le_of_ble_eq_true rfl, Nat.le_of_ble_eq_true rfl⟩ (fun H locs hG hz hk hS => ?_)
          have hP := hG
          refine zr_iinc (pc := 95) (d := ((i : Int)) + 1) (lv' := [(1, .int (zI (((i : Int)) + 1))), (2, .int (zI ((gC ((soG g i)) ((i : Int)) 6) + (scn ((soG g i)) ((i : Int)))))), (0, .ref (am 0))]) hx hb dX8_perform_95 hl (k := 2) rfl rfl (by decide) rfl (fun ls hl => ?_)
          refine lv_goto (pc := 98) (tgt := 52) hx hb dX8_perform_98 (by decide) ?_
          exact ih_52 (i + 1) H locs (⟨by omega, by have h := hP; rw [su_va] at h; rw [soG_s, show min (gC g (i : Int) 6 + scn g (i : Int)) 9 = (gC ((soG g i)) ((i : Int)) 6) + (scn ((soG g i)) ((i : Int))) by rw [← hg6 _ (by omega), ← hsc]; omega]; exact h⟩) hS (by omega) ls (lv_sub hl [2, 0] rfl)
        · refine lv_bipush (pc := 86) (v := zI 9) hx hb dX8_perform_86 zc_bipush_9 ?_
          refine lv_goto (pc := 88) (tgt := 92) hx hb dX8_perform_88 (by decide) ?_
          refine zr_vwv (pc := 92) (As := [.int (zI ((i : Int))), .int (zI (6)), .int (zI (9))]) (rest := []) S (ct_X8_lay l D cI cT H.size am ((va_up μ15 1 (soG g i))) ((soG g i)) ((va_up_self ..)) hJ ((i : Int)) 6 9 (by omega) (by omega) (by decide) (by decide)) (cwV 3 hts gX8_perform_X8_lay rfl rfl rfl (by decide +kernel) ⟨Nat.le_of_ble_eq_true rfl, Nat.le_of_ble_eq_true rfl⟩) zs0 hK hP (zr_recv hK (hP 0 (by decide)) rfl) hS (fun q h => h.elim (fun ⟨k, k0, e⟩ => by rw [e]; exact hAin k k0) (fun z => hAn q (Nat.le_trans hS.1 z))) rfl hl.1 rfl (Nat.le_of_ble_eq_true rfl) dX8_perform_92 ⟨Nat.le_of_ble_eq_true rfl, Nat.le_of_ble_eq_true rfl⟩ (fun H locs hG hz hk hS => ?_)
          have hP := hG
          refine zr_iinc (pc := 95) (d := ((i : Int)) + 1) (lv' := [(1, .int (zI (((i : Int)) + 1))), (2, .int (zI ((gC ((soG g i)) ((i : Int)) 6) + (scn ((soG g i)) ((i : Int)))))), (0, .ref (am 0))]) hx hb dX8_perform_95 hl (k := 2) rfl rfl (by decide) rfl (fun ls hl => ?_)
          refine lv_goto (pc := 98) (tgt := 52) hx hb dX8_perform_98 (by decide) ?_
          exact ih_52 (i + 1) H locs (⟨by omega, by have h := hP; rw [su_va] at h; rw [soG_s, show min (gC g (i : Int) 6 + scn g (i : Int)) 9 = 9 by rw [← hg6 _ (by omega), ← hsc]; omega]; exact h⟩) hS (by omega) ls (lv_sub hl [2, 0] rfl)
    · refine lv_sipush (pc := 42) (v := zI (-2003)) hx hb dX8_perform_42 zc_sipush_m2003 ?_
      exact W.iret (v := zI ((-2003))) hx hb hr (fun tz ht hW => ⟨⟨zI ((-2003)), zI ((-2003)), rfl, rfl, by dsimp only; rw [ht]; exact ⟨_, _, _, _, (mR_sc hM 0 0 (by decide) (by decide)), oR_no ((tft (fun j j0 j1 => h_n j j0 (by omega))).trans (tff (by omega))) (by decide), hP⟩⟩, hS.F ht⟩) hS.2.2 dX8_perform_45
  · refine lv_aload_n (pc := 12) hx hb dX8_perform_12 rfl (lv_at hl 0 rfl) ?_
    refine lv_iload_n (pc := 13) hx hb dX8_perform_13 rfl (lv_at hl 1 rfl) ?_
    refine zr_vi (pc := 14) (As := [.int (zI ((k : Int)))]) (rest := []) S (ct_X8_problemsOf l D cI cT am ((su μ 0 0 0)) g (((su_ne (by decide) _ _).trans hg)) hI ((k : Int)) (by omega) (by omega)) (cwV 1 hts gX8_perform_X8_problemsOf rfl rfl rfl (by decide +kernel) ⟨Nat.le_of_ble_eq_true rfl, Nat.le_of_ble_eq_true rfl⟩) zs0 hK hP (zr_recv hK (hP 0 (by decide)) rfl) rfl hl.1 rfl (Nat.le_of_ble_eq_true rfl) dX8_perform_14 ⟨Nat.le_of_ble_eq_true rfl, Nat.le_of_ble_eq_true rfl⟩ (fun r_14 hr_14 => ?_)
    subst hr_14
    have hpb_14 := prb_bd hI ((k : Int))
    refine zr_if_le (pc := 17) (tgt := 24) hx hb dX8_perform_17 (by decide) (by omega) (fun c_17 => ?_) (fun c_17 => ?_)
    · refine zr_iinc (pc := 24) (d := ((k : Int)) + 1) (lv' := [(1, .int (zI (((k : Int)) + 1))), (0, .ref (am 0))]) hx hb dX8_perform_24 hl (k := 1) rfl rfl (by decide) rfl (fun ls hl => ?_)
      refine lv_goto (pc := 27) (tgt := 7) hx hb dX8_perform_27 (by decide) ?_
      exact ih_7 (k + 1) (⟨by omega, fa_s h_n (by omega)⟩) (by omega) ls (lv_sub hl [1, 0] rfl)
    · refine lv_sipush (pc := 20) (v := zI (-2002)) hx hb dX8_perform_20 zc_sipush_m2002 ?_
      exact W.iret (v := zI ((-2002))) hx hb hr (fun tz ht hW => ⟨⟨zI ((-2002)), zI ((-2002)), rfl, rfl, by dsimp only; rw [ht]; exact ⟨_, _, _, _, (mR_sc hM 0 0 (by decide) (by decide)), oR_no (tff (fun q => by have q2 := q k (by omega) (by omega); omega)) (by decide), hP⟩⟩, hS.F ht⟩) hS.2.2 dX8_perform_23
set_option maxHeartbeats 4000000 in
set_option maxRecDepth 100000 in
theorem ct_X8_wash (l : Launch) (D : va_G) (cI cT : ClassId) (sz : Nat) (am : Nat → Nat) (μ : Nat → Int → Int) (g : Int → Int) (n : Nat) (hs : Nat → Int → Int) (tl : Int) (tx : Int → Int) (hM : mR μ g n hs tl tx) (hI : Inv g) (hJ : zJ am 5) (p : Int) (ld : Int) (r_p : -2147483648 ≤ p ∧ p ≤ 2147483647) (r_ld : -2147483648 ≤ ld ∧ ld ≤ 2147483647) : zMi l yX8_wash wsX8_wash ({ frames := 4, cells := 0, slots := 0, locals := 95 }) D cI cT [.ref (am 0), .int (zI (p)), .int (zI (ld))] sz (fun _ H => zW D am 5 (mC cI am μ) H) (fun rr H => ∃ (μ' : Nat → Int → Int) (g' : Int → Int) (n' : Nat) (hs' : Nat → Int → Int), mR μ' g' n' hs' tl tx ∧ oR (eWash g p ld) (sm (fun k => less g ld (tbD p) k) (g 0).toNat) (zu (clnG g ld (tbD p) (g 0).toNat) 6 (g 6 + tbC p)) g n hs g' n' hs' rr ∧ zW D am 5 (mC cI am μ') H) (zR am 5 sz) := by
  refine Met.ofW (cc := cX8_wash) (maxL := 7) (ret := (some .int)) (by decide) rfl ?_
  intro p_ e_ s m_ args below meth c_ s₁ B hml hv
  obtain ⟨rfl, hsz, hK, hF⟩ := hv
  have hx := B.exec
  have hb := B.bytes
  have hr := B.returns
  have hts := atoms_spec (ws := wsX8_wash) B.pre
  have hown : s.vm.findClass RX8 = some m_.cls := findClass_of_methodNamed B.named
  have hlocks := B.notSynchronized
  have S : CallFix p_ m_ c_ cX8_wash 7 s _ wsX8_wash RX8 := ⟨hx, hb, hml, hown, hts⟩
  have i_X8 : ∀ w ∈ u_ws RX8 TX8 12, w ∈ wsX8_wash := fun _ h => List.mem_cons_of_mem _ (List.mem_append_right _ h)
  subst hsz
  generalize hAe : (zR am 5 s.heap.size) = A
  have hAn : ∀ q : Nat, s.heap.size ≤ q → A q := fun q h => by rw [← hAe]; exact Or.inr h
  obtain ⟨H, hHe⟩ : ∃ H : Heap, H = s.heap := ⟨_, rfl⟩
  rw [← hHe] at hF ⊢
  have hS : va_S A s.heap H [] := by rw [hHe]; exact va_S.rf
  have hP := hF
  have hg := hM.1
  have hAin : ∀ k : Nat, k < 5 → A (am k) := fun k hk => by rw [← hAe]; exact Or.inl ⟨k, hk, rfl⟩
  have hnC := iv_nC hI
  have hpw := pw16 (n := g 0) (by omega) (by omega)
  have hpp := pw_pos (g 0)
  have htd := tbD_bd p
  have hl := lv_entry ([.ref (am 0), .int (zI (p)), .int (zI (ld))]) (n := 7) (Nat.le_of_ble_eq_true rfl)
  rw [lg_entry_eq]
  generalize (lg_sl ([.ref (am 0), .int (zI (p)), .int (zI (ld))]) ++ List.replicate (7 - (lg_sl ([.ref (am 0), .int (zI (p)), .int (zI (ld))])).length) Slot.unset).toArray = ls at hl ⊢
  have hl : lv_has ls 7 [(0, .ref (am 0)), (1, .int (zI (p))), (2, .int (zI (ld)))] := hl
  refine lv_aload_n (pc := 0) hx hb dX8_wash_0 rfl (lv_at hl 0 rfl) ?_
  refine lv_iconst (pc := 1) (v := zI 0) hx hb dX8_wash_1 rfl ?_
  refine zr_put (pc := 2) S hK (hP 0 (by decide)) rfl i_X8 tyX8 tyX8_ok nmX8 0 (by decide) (List.mem_of_getElem? (i := 1) rfl) rfl rfl rfl (Nat.le_of_ble_eq_true rfl) hS (hAin 0 (by decide)) dX8_wash_2 (fun H locs hO hz hk hS => ?_)
  have hP := zW.put hP hJ 0 (by decide) hO hk (mC_0_0 0)
  refine lv_iload_n (pc := 5) hx hb dX8_wash_5 rfl (lv_at hl 1 rfl) ?_
  refine zr_i2l (pc := 6) hx hb dX8_wash_6 (by omega) ?_
  refine lv_lconst (pc := 7) (v := zL 0) hx hb dX8_wash_7 rfl ?_
  refine zr_ldc2 (pc := 8) (w := 3) hx hb hown (hts _ (List.mem_of_getElem? (i := 2) rfl)) dX8_wash_8 (by decide +kernel) ?_
  refine zr_si (pc := 11) (As := [.long (zL (p)), .long (zL (0)), .long (zL (3))]) (rest := []) S (ct_X8_in l D cI cT p 0 3 (by omega) (by decide) (by decide)) (va_cwS 3 hts gX8_wash_X8_in rfl rfl rfl (by decide +kernel) ⟨Nat.le_of_ble_eq_true rfl, Nat.le_of_ble_eq_true rfl⟩) zs0 hK trivial rfl hl.1 rfl (Nat.le_of_ble_eq_true rfl) dX8_wash_11 ⟨Nat.le_of_ble_eq_true rfl, Nat.le_of_ble_eq_true rfl⟩ (fun r_11 hr_11 => ?_)
  rcases hr_11 with ⟨hb_11, rfl⟩ | ⟨hb_11, rfl⟩
  · refine zr_if_eq (pc := 14) (tgt := 37) hx hb dX8_wash_14 (by decide) (by decide) (fun z => absurd z (by decide)) (fun _ => ?_)
    refine lv_iload_n (pc := 17) hx hb dX8_wash_17 rfl (lv_at hl 2 rfl) ?_
    refine zr_i2l (pc := 18) hx hb dX8_wash_18 (by omega) ?_
    refine lv_lconst (pc := 19) (v := zL 1) hx hb dX8_wash_19 rfl ?_
    refine lv_iconst (pc := 20) (v := zI 1) hx hb dX8_wash_20 rfl ?_
    refine lv_aload_n (pc := 21) hx hb dX8_wash_21 rfl (lv_at hl 0 rfl) ?_
    refine zr_get (pc := 22) S hK (hP 0 (by decide)) rfl i_X8 1 (by decide) (List.mem_of_getElem? (i := 3) rfl) rfl dX8_wash_22 ?_
    refine lv_iconst (pc := 25) (v := zI 0) hx hb dX8_wash_25 rfl ?_
    refine zr_ald (pc := 26) (n := 572) hx hb (zAr_of (zK_int hK) (hP 1 (by decide))) (by decide) (by decide) (by decide) dX8_wash_26 ?_
    refine zr_top (b := g 0) (congrFun ((su_ne (by decide) _ _).trans hg) _) ?_
    refine zr_ishl (pc := 27) (d := pw (g 0)) hx hb dX8_wash_27 (zi_pw (by omega) (by omega)) ?_
    refine lv_iconst (pc := 28) (v := zI 1) hx hb dX8_wash_28 rfl ?_
    refine zr_isub (pc := 29) (d := (pw (g 0)) - 1) hx hb dX8_wash_29 rfl ?_
    refine zr_i2l (pc := 30) hx hb dX8_wash_30 (by omega) ?_
    refine zr_si (pc := 31) (As := [.long (zL (ld)), .long (zL (1)), .long (zL ((pw (g 0)) - 1))]) (rest := []) S (ct_X8_in l D cI cT ld 1 ((pw (g 0)) - 1) (by omega) (by decide) (by omega)) (va_cwS 3 hts gX8_wash_X8_in rfl rfl rfl (by decide +kernel) ⟨Nat.le_of_ble_eq_true rfl, Nat.le_of_ble_eq_true rfl⟩) zs0 hK trivial rfl hl.1 rfl (Nat.le_of_ble_eq_true rfl) dX8_wash_31 ⟨Nat.le_of_ble_eq_true rfl, Nat.le_of_ble_eq_true rfl⟩ (fun r_31 hr_31 => ?_)
    rcases hr_31 with ⟨hb_31, rfl⟩ | ⟨hb_31, rfl⟩
    · refine zr_if_ne (pc := 34) (tgt := 41) hx hb dX8_wash_34 (by decide) (by decide) (fun _ => ?_) (fun z => absurd z (by decide))
      refine lv_aload_n (pc := 41) hx hb dX8_wash_41 rfl (lv_at hl 0 rfl) ?_
      refine lv_iload_n (pc := 42) hx hb dX8_wash_42 rfl (lv_at hl 1 rfl) ?_
      refine lv_iload_n (pc := 43) hx hb dX8_wash_43 rfl (lv_at hl 2 rfl) ?_
      refine zr_vi (pc := 44) (As := [.int (zI (p)), .int (zI (ld))]) (rest := []) S (ct_X8_isLoadAllowed l D cI cT am ((su μ 0 0 0)) g (((su_ne (by decide) _ _).trans hg)) hI p ld (by omega) (by omega) (by omega) (by omega)) (cwV 2 hts gX8_wash_X8_isLoadAllowed rfl rfl rfl (by decide +kernel) ⟨Nat.le_of_ble_eq_true rfl, Nat.le_of_ble_eq_true rfl⟩) zs0 hK hP (zr_recv hK (hP 0 (by decide)) rfl) rfl hl.1 rfl (Nat.le_of_ble_eq_true rfl) dX8_wash_44 ⟨Nat.le_of_ble_eq_true rfl, Nat.le_of_ble_eq_true rfl⟩ (fun r_44 hr_44 => ?_)
      rcases hr_44 with ⟨hb_44, rfl⟩ | ⟨hb_44, rfl⟩
      · refine zr_if_ne (pc := 47) (tgt := 54) hx hb dX8_wash_47 (by decide) (by decide) (fun _ => ?_) (fun z => absurd z (by decide))
        refine lv_aload_n (pc := 54) hx hb dX8_wash_54 rfl (lv_at hl 0 rfl) ?_
        refine zr_vwv (pc := 55) (As := []) (rest := []) S (ct_X8_act l D cI cT H.size am ((su μ 0 0 0)) g n hs tl tx (mR_sc hM 0 0 (by decide) (by decide)) hI hJ) (cwV 0 hts gX8_wash_X8_act rfl rfl rfl (by decide +kernel) ⟨Nat.le_of_ble_eq_true rfl, Nat.le_of_ble_eq_true rfl⟩) zs0 hK hP (zr_recv hK (hP 0 (by decide)) rfl) hS (fun q h => h.elim (fun ⟨k, k0, e⟩ => by rw [e]; exact hAin k k0) (fun z => hAn q (Nat.le_trans hS.1 z))) rfl hl.1 rfl (Nat.le_of_ble_eq_true rfl) dX8_wash_55 ⟨Nat.le_of_ble_eq_true rfl, Nat.le_of_ble_eq_true rfl⟩ (fun H locs hG hz hk hS => ?_)
        obtain ⟨μ16, ha16, hM16, hP⟩ := hG
        refine lv_iconst (pc := 58) (v := zI 0) hx hb dX8_wash_58 rfl ?_
        refine lv_istore_n (pc := 59) (lv' := [(3, .int (zI (0))), (0, .ref (am 0)), (1, .int (zI (p))), (2, .int (zI (ld)))]) hx hb dX8_wash_59 rfl hl (by decide) rfl (fun ls hl => ?_)
        refine lv_iconst (pc := 60) (v := zI 0) hx hb dX8_wash_60 rfl ?_
        refine lv_istore (pc := 61) (lv' := [(4, .int (zI (0))), (3, .int (zI (0))), (0, .ref (am 0)), (1, .int (zI (p))), (2, .int (zI (ld)))]) hx hb dX8_wash_61 hl (by decide) rfl (fun ls hl => ?_)
        refine zr_hloop2 (fun (i : Nat) (x : Int) (H : Heap) => ((i : Int) ≤ g 0) ∧ (x = sm (fun k => less g ld (tbD p) k) i) ∧ (zW D am 5 (mC cI am (va_up μ16 1 (clnG g ld (tbD p) i))) H)) (fun (i : Nat) (x : Int) => (g 0 : Int).toNat - i) (fun (i : Nat) (x : Int) => [(0, .ref (am 0)), (1, .int (zI (p))), (2, .int (zI (ld))), (3, .int (zI (x))), (4, .int (zI ((i : Int))))]) ?_ (0) (0) (⟨by omega, by rw [sm_0], by rw [show clnG g ld (tbD p) 0 = μ16 1 from Eq.symm (hM16.1), va_up_id]; exact hP⟩) hS (lv_sub hl [2, 3, 4, 1, 0] rfl)
        intro i x H locs hinv hS ih_63 ls hl
        obtain ⟨h_i, h_x, hP⟩ := hinv
        obtain ⟨hI2, hg0⟩ := inv_cln hI (ld := ld) (st := tbD p) (by omega) i h_i
        have hg6 : ∀ k : Int, (i : Int) ≤ k → gC (clnG g ld (tbD p) i) k 6 = gC g k 6 := fun k hk => clnG_o g ld (tbD p) i (fun j j0 j1 => by omega)
        refine lv_iload (pc := 63) hx hb dX8_wash_63 (lv_at hl 4 rfl) ?_
        refine lv_aload_n (pc := 65) hx hb dX8_wash_65 rfl (lv_at hl 0 rfl) ?_
        refine zr_get (pc := 66) S hK (hP 0 (by decide)) rfl i_X8 1 (by decide) (List.mem_of_getElem? (i := 3) rfl) rfl dX8_wash_66 ?_
        refine lv_iconst (pc := 69) (v := zI 0) hx hb dX8_wash_69 rfl ?_
        refine zr_ald (pc := 70) (n := 572) hx hb (zAr_of (zK_int hK) (hP 1 (by decide))) (by decide) (by decide) (by decide) dX8_wash_70 ?_
        refine zr_top (b := (clnG g ld (tbD p) i) 0) (congrFun (va_up_self ..) _) ?_
        refine zr_icmp_ge (pc := 71) (tgt := 141) hx hb dX8_wash_71 (by decide) (by omega) (by omega) (fun c_71 => ?_) (fun c_71 => ?_)
        · rw [hg0] at c_71
          have e141 : i = (g 0).toNat := by omega
          subst e141
          refine lv_aload_n (pc := 141) hx hb dX8_wash_141 rfl (lv_at hl 0 rfl) ?_
          refine zr_get (pc := 142) S hK (hP 0 (by decide)) rfl i_X8 1 (by decide) (List.mem_of_getElem? (i := 3) rfl) rfl dX8_wash_142 ?_
          refine lv_bipush (pc := 145) (v := zI 6) hx hb dX8_wash_145 zc_bipush_6 ?_
          refine lv_dup2_11 (pc := 147) hx hb dX8_wash_147 rfl rfl ?_
          refine zr_ald (pc := 148) (n := 572) hx hb (zAr_of (zK_int hK) (hP 1 (by decide))) (by decide) (by decide) (by decide) dX8_wash_148 ?_
          refine zr_top (b := g 6) ((congrFun (va_up_self ..) _).trans (clnG_o g ld (tbD p) _ (fun k k0 k1 => by omega))) ?_
          refine lv_iload_n (pc := 149) hx hb dX8_wash_149 rfl (lv_at hl 1 rfl) ?_
          refine zr_si (pc := 150) (As := [.int (zI (p))]) (rest := [.int (zI (g 6)), .int (zI (6)), .ref (am 1)]) S (ct_X8_costOf l D cI cT p (by omega) (by omega)) (va_cwS 1 hts gX8_wash_X8_costOf rfl rfl rfl (by decide +kernel) ⟨Nat.le_of_ble_eq_true rfl, Nat.le_of_ble_eq_true rfl⟩) zs0 hK trivial rfl hl.1 rfl (Nat.le_of_ble_eq_true rfl) dX8_wash_150 ⟨Nat.le_of_ble_eq_true rfl, Nat.le_of_ble_eq_true rfl⟩ (fun r_150 hr_150 => ?_)
          subst hr_150
          refine zr_iadd (pc := 153) (d := (g 6) + (tbC p)) hx hb dX8_wash_153 rfl ?_
          refine zr_ast (pc := 154) (k := 572) hx hb hK (hP 1 (by decide)) (by decide) (by decide) (by decide) hS (hAin 1 (by decide)) dX8_wash_154 (fun H locs hO hz hk hS => ?_)
          have hP := zW.put hP hJ 1 (by decide) hO hk (mC_a 1 (by decide) _ _)
          refine lv_iload_n (pc := 155) hx hb dX8_wash_155 rfl (lv_at hl 3 rfl) ?_
          exact W.iret (v := zI (x)) hx hb hr (fun tz ht hW => ⟨⟨zI (x), zI (x), rfl, rfl, by dsimp only; rw [ht]; exact ⟨_, _, _, _, (mR_put (mR_g hM16 _) 6 ((g 6) + (tbC p))), oR_ok ((tft (by omega)).trans (tft hb_44)) (h_x) (rfl), hP⟩⟩, hS.F ht⟩) hS.2.2 dX8_wash_156
        · rw [hg0] at c_71
          have hdi := iv_di hI2 (c := (i : Int)) (by omega) (by omega)
          refine lv_aload_n (pc := 74) hx hb dX8_wash_74 rfl (lv_at hl 0 rfl) ?_
          refine lv_iload (pc := 75) hx hb dX8_wash_75 (lv_at hl 4 rfl) ?_
          refine lv_bipush (pc := 77) (v := zI 6) hx hb dX8_wash_77 zc_bipush_6 ?_
          refine zr_vi (pc := 79) (As := [.int (zI ((i : Int))), .int (zI (6))]) (rest := []) S (ct_X8_of l D cI cT am ((va_up μ16 1 (clnG g ld (tbD p) i))) ((clnG g ld (tbD p) i)) ((va_up_self ..)) hI2 ((i : Int)) 6 (by omega) (by omega) (by omega) (by omega)) (cwV 2 hts gX8_wash_X8_of rfl rfl rfl (by decide +kernel) ⟨Nat.le_of_ble_eq_true rfl, Nat.le_of_ble_eq_true rfl⟩) zs0 hK hP (zr_recv hK (hP 0 (by decide)) rfl) rfl hl.1 rfl (Nat.le_of_ble_eq_true rfl) dX8_wash_79 ⟨Nat.le_of_ble_eq_true rfl, Nat.le_of_ble_eq_true rfl⟩ (fun r_79 hr_79 => ?_)
          subst hr_79
          refine lv_istore (pc := 82) (lv' := [(5, .int (zI (gC ((clnG g ld (tbD p) i)) ((i : Int)) 6))), (0, .ref (am 0)), (1, .int (zI (p))), (2, .int (zI (ld))), (3, .int (zI (x))), (4, .int (zI ((i : Int))))]) hx hb dX8_wash_82 hl (by decide) rfl (fun ls hl => ?_)
          refine lv_iload_n (pc := 84) hx hb dX8_wash_84 rfl (lv_at hl 3 rfl) ?_
          refine lv_iload (pc := 85) hx hb dX8_wash_85 (lv_at hl 5 rfl) ?_
          refine zr_si (pc := 87) (As := [.int (zI (ld)), .int (zI ((i : Int)))]) (rest := []) S (ct_X8_has l D cI cT ld ((i : Int)) (by omega) (by omega) (by omega) (by omega)) (va_cwS 2 hts gX8_wash_X8_has rfl rfl rfl (by decide +kernel) ⟨Nat.le_of_ble_eq_true rfl, Nat.le_of_ble_eq_true rfl⟩) zs0 hK trivial rfl hl.1 rfl (Nat.le_of_ble_eq_true rfl) dX8_wash_87 ⟨Nat.le_of_ble_eq_true rfl, Nat.le_of_ble_eq_true rfl⟩ (fun r_87 hr_87 => ?_)
          rcases hr_87 with ⟨hb_87, rfl⟩ | ⟨hb_87, rfl⟩
          · refine zr_if_ne (pc := 90) (tgt := 97) hx hb dX8_wash_90 (by decide) (by decide) (fun _ => ?_) (fun z => absurd z (by decide))
            refine lv_iload (pc := 97) hx hb dX8_wash_97 (lv_at hl 0 rfl) ?_
            refine lv_iload_n (pc := 99) hx hb dX8_wash_99 rfl (lv_at hl 2 rfl) ?_
            refine zr_si (pc := 100) (As := [.int (zI (p))]) (rest := [.int (zI (gC ((clnG g ld (tbD p) i)) ((i : Int)) 6))]) S (ct_X8_washesOut l D cI cT p (by omega) (by omega)) (va_cwS 1 hts gX8_wash_X8_washesOut rfl rfl rfl (by decide +kernel) ⟨Nat.le_of_ble_eq_true rfl, Nat.le_of_ble_eq_true rfl⟩) zs0 hK trivial rfl hl.1 rfl (Nat.le_of_ble_eq_true rfl) dX8_wash_100 ⟨Nat.le_of_ble_eq_true rfl, Nat.le_of_ble_eq_true rfl⟩ (fun r_100 hr_100 => ?_)
            subst hr_100
            have htd_100 := tbD_bd (p)
            refine zr_icmp_ge (pc := 103) (tgt := 111) hx hb dX8_wash_103 (by decide) (by omega) (by omega) (fun c_103 => ?_) (fun c_103 => ?_)
            · refine lv_iload_n (pc := 111) hx hb dX8_wash_111 rfl (lv_at hl 2 rfl) ?_
              refine zr_si (pc := 112) (As := [.int (zI (p))]) (rest := []) S (ct_X8_washesOut l D cI cT p (by omega) (by omega)) (va_cwS 1 hts gX8_wash_X8_washesOut rfl rfl rfl (by decide +kernel) ⟨Nat.le_of_ble_eq_true rfl, Nat.le_of_ble_eq_true rfl⟩) zs0 hK trivial rfl hl.1 rfl (Nat.le_of_ble_eq_true rfl) dX8_wash_112 ⟨Nat.le_of_ble_eq_true rfl, Nat.le_of_ble_eq_true rfl⟩ (fun r_112 hr_112 => ?_)
              subst hr_112
              have htd_112 := tbD_bd (p)
              refine lv_istore (pc := 115) (lv' := [(6, .int (zI (tbD p))), (5, .int (zI (gC ((clnG g ld (tbD p) i)) ((i : Int)) 6))), (0, .ref (am 0)), (1, .int (zI (p))), (2, .int (zI (ld))), (3, .int (zI (x))), (4, .int (zI ((i : Int))))]) hx hb dX8_wash_115 hl (by decide) rfl (fun ls hl => ?_)
              refine lv_aload_n (pc := 117) hx hb dX8_wash_117 rfl (lv_at hl 2 rfl) ?_
              refine lv_iload (pc := 118) hx hb dX8_wash_118 (lv_at hl 6 rfl) ?_
              refine lv_bipush (pc := 120) (v := zI 6) hx hb dX8_wash_120 zc_bipush_6 ?_
              refine lv_iload (pc := 122) hx hb dX8_wash_122 (lv_at hl 1 rfl) ?_
              refine lv_iload (pc := 124) hx hb dX8_wash_124 (lv_at hl 0 rfl) ?_
              refine zr_isub (pc := 126) (d := (gC ((clnG g ld (tbD p) i)) ((i : Int)) 6) - (tbD p)) hx hb dX8_wash_126 rfl ?_
              refine zr_vwv (pc := 127) (As := [.int (zI ((i : Int))), .int (zI (6)), .int (zI ((gC ((clnG g ld (tbD p) i)) ((i : Int)) 6) - (tbD p)))]) (rest := []) S (ct_X8_lay l D cI cT H.size am ((va_up μ16 1 (clnG g ld (tbD p) i))) ((clnG g ld (tbD p) i)) ((va_up_self ..)) hJ ((i : Int)) 6 ((gC ((clnG g ld (tbD p) i)) ((i : Int)) 6) - (tbD p)) (by omega) (by omega) (by decide) (by decide)) (cwV 3 hts gX8_wash_X8_lay rfl rfl rfl (by decide +kernel) ⟨Nat.le_of_ble_eq_true rfl, Nat.le_of_ble_eq_true rfl⟩) zs0 hK hP (zr_recv hK (hP 0 (by decide)) rfl) hS (fun q h => h.elim (fun ⟨k, k0, e⟩ => by rw [e]; exact hAin k k0) (fun z => hAn q (Nat.le_trans hS.1 z))) rfl hl.1 rfl (Nat.le_of_ble_eq_true rfl) dX8_wash_127 ⟨Nat.le_of_ble_eq_true rfl, Nat.le_of_ble_eq_true rfl⟩ (fun H locs hG hz hk hS => ?_)
              have hP := hG
              refine lv_iload_n (pc := 130) hx hb dX8_wash_130 rfl (lv_at hl 5 rfl) ?_
              refine lv_iload (pc := 131) hx hb dX8_wash_131 (lv_at hl 0 rfl) ?_
              refine zr_iadd (pc := 133) (d := x + (tbD p)) hx hb dX8_wash_133 rfl ?_
              refine lv_istore_n (pc := 134) (lv' := [(3, .int (zI (x + (tbD p)))), (6, .int (zI (tbD p))), (5, .int (zI (gC ((clnG g ld (tbD p) i)) ((i : Int)) 6))), (0, .ref (am 0)), (1, .int (zI (p))), (2, .int (zI (ld))), (4, .int (zI ((i : Int))))]) hx hb dX8_wash_134 rfl hl (by decide) rfl (fun ls hl => ?_)
              refine zr_iinc (pc := 135) (d := ((i : Int)) + 1) (lv' := [(4, .int (zI (((i : Int)) + 1))), (3, .int (zI (x + (tbD p)))), (6, .int (zI (tbD p))), (5, .int (zI (gC ((clnG g ld (tbD p) i)) ((i : Int)) 6))), (0, .ref (am 0)), (1, .int (zI (p))), (2, .int (zI (ld)))]) hx hb dX8_wash_135 hl (k := 6) rfl rfl (by decide) rfl (fun ls hl => ?_)
              refine lv_goto (pc := 138) (tgt := 63) hx hb dX8_wash_138 (by decide) ?_
              exact ih_63 (i + 1) ((x + (tbD p))) H locs (⟨by omega, by have h6 := hg6 i (Int.le_refl _); rw [sm_s]; first | (rw [less, tif_t hb_87]; omega) | (rw [less, tif_f hb_87]; omega), by have h := hP; have h6 := hg6 i (Int.le_refl _); rw [su_va] at h; first | (rw [clnG_n hb_87]; rw [zu_same (show (gC ((clnG g ld (tbD p) i)) ((i : Int)) 6) - (tbD p) = clnG g ld (tbD p) i (12 + 20 * (i : Int) + 6) from Int.sub_zero _)] at h; exact h) | (rw [clnG_y hb_87, show gC g (i : Int) 6 - min (gC g (i : Int) 6) (tbD p) = (gC ((clnG g ld (tbD p) i)) ((i : Int)) 6) - (tbD p) by omega]; exact h)⟩) hS (by omega) ls (lv_sub hl [4, 5, 6, 1, 0] rfl)
            · refine lv_iload (pc := 106) hx hb dX8_wash_106 (lv_at hl 0 rfl) ?_
              refine lv_goto (pc := 108) (tgt := 115) hx hb dX8_wash_108 (by decide) ?_
              refine lv_istore (pc := 115) (lv' := [(6, .int (zI (gC ((clnG g ld (tbD p) i)) ((i : Int)) 6))), (5, .int (zI (gC ((clnG g ld (tbD p) i)) ((i : Int)) 6))), (0, .ref (am 0)), (1, .int (zI (p))), (2, .int (zI (ld))), (3, .int (zI (x))), (4, .int (zI ((i : Int))))]) hx hb dX8_wash_115 hl (by decide) rfl (fun ls hl => ?_)
              refine lv_aload_n (pc := 117) hx hb dX8_wash_117 rfl (lv_at hl 2 rfl) ?_
              refine lv_iload (pc := 118) hx hb dX8_wash_118 (lv_at hl 6 rfl) ?_
              refine lv_bipush (pc := 120) (v := zI 6) hx hb dX8_wash_120 zc_bipush_6 ?_
              refine lv_iload (pc := 122) hx hb dX8_wash_122 (lv_at hl 1 rfl) ?_
              refine lv_iload (pc := 124) hx hb dX8_wash_124 (lv_at hl 0 rfl) ?_
              refine zr_isub (pc := 126) (d := (gC ((clnG g ld (tbD p) i)) ((i : Int)) 6) - (gC ((clnG g ld (tbD p) i)) ((i : Int)) 6)) hx hb dX8_wash_126 rfl ?_
              refine zr_vwv (pc := 127) (As := [.int (zI ((i : Int))), .int (zI (6)), .int (zI ((gC ((clnG g ld (tbD p) i)) ((i : Int)) 6) - (gC ((clnG g ld (tbD p) i)) ((i : Int)) 6)))]) (rest := []) S (ct_X8_lay l D cI cT H.size am ((va_up μ16 1 (clnG g ld (tbD p) i))) ((clnG g ld (tbD p) i)) ((va_up_self ..)) hJ ((i : Int)) 6 ((gC ((clnG g ld (tbD p) i)) ((i : Int)) 6) - (gC ((clnG g ld (tbD p) i)) ((i : Int)) 6)) (by omega) (by omega) (by decide) (by decide)) (cwV 3 hts gX8_wash_X8_lay rfl rfl rfl (by decide +kernel) ⟨Nat.le_of_ble_eq_true rfl, Nat.le_of_ble_eq_true rfl⟩) zs0 hK hP (zr_recv hK (hP 0 (by decide)) rfl) hS (fun q h => h.elim (fun ⟨k, k0, e⟩ => by rw [e]; exact hAin k k0) (fun z => hAn q (Nat.le_trans hS.1 z))) rfl hl.1 rfl (Nat.le_of_ble_eq_true rfl) dX8_wash_127 ⟨Nat.le_of_ble_eq_true rfl, Nat.le_of_ble_eq_true rfl⟩ (fun H locs hG hz hk hS => ?_)
              have hP := hG
              refine lv_iload_n (pc := 130) hx hb dX8_wash_130 rfl (lv_at hl 5 rfl) ?_
              refine lv_iload (pc := 131) hx hb dX8_wash_131 (lv_at hl 0 rfl) ?_
              refine zr_iadd (pc := 133) (d := x + (gC ((clnG g ld (tbD p) i)) ((i : Int)) 6)) hx hb dX8_wash_133 rfl ?_
              refine lv_istore_n (pc := 134) (lv' := [(3, .int (zI (x + (gC ((clnG g ld (tbD p) i)) ((i : Int)) 6)))), (6, .int (zI (gC ((clnG g ld (tbD p) i)) ((i : Int)) 6))), (5, .int (zI (gC ((clnG g ld (tbD p) i)) ((i : Int)) 6))), (0, .ref (am 0)), (1, .int (zI (p))), (2, .int (zI (ld))), (4, .int (zI ((i : Int))))]) hx hb dX8_wash_134 rfl hl (by decide) rfl (fun ls hl => ?_)
              refine zr_iinc (pc := 135) (d := ((i : Int)) + 1) (lv' := [(4, .int (zI (((i : Int)) + 1))), (3, .int (zI (x + (gC ((clnG g ld (tbD p) i)) ((i : Int)) 6)))), (6, .int (zI (gC ((clnG g ld (tbD p) i)) ((i : Int)) 6))), (5, .int (zI (gC ((clnG g ld (tbD p) i)) ((i : Int)) 6))), (0, .ref (am 0)), (1, .int (zI (p))), (2, .int (zI (ld)))]) hx hb dX8_wash_135 hl (k := 6) rfl rfl (by decide) rfl (fun ls hl => ?_)
              refine lv_goto (pc := 138) (tgt := 63) hx hb dX8_wash_138 (by decide) ?_
              exact ih_63 (i + 1) ((x + (gC ((clnG g ld (tbD p) i)) ((i : Int)) 6))) H locs (⟨by omega, by have h6 := hg6 i (Int.le_refl _); rw [sm_s]; first | (rw [less, tif_t hb_87]; omega) | (rw [less, tif_f hb_87]; omega), by have h := hP; have h6 := hg6 i (Int.le_refl _); rw [su_va] at h; first | (rw [clnG_n hb_87]; rw [zu_same (show (gC ((clnG g ld (tbD p) i)) ((i : Int)) 6) - (gC ((clnG g ld (tbD p) i)) ((i : Int)) 6) = clnG g ld (tbD p) i (12 + 20 * (i : Int) + 6) from Int.sub_zero _)] at h; exact h) | (rw [clnG_y hb_87, show gC g (i : Int) 6 - min (gC g (i : Int) 6) (tbD p) = (gC ((clnG g ld (tbD p) i)) ((i : Int)) 6) - (gC ((clnG g ld (tbD p) i)) ((i : Int)) 6) by omega]; exact h)⟩) hS (by omega) ls (lv_sub hl [4, 5, 6, 1, 0] rfl)
          · refine zr_if_ne (pc := 90) (tgt := 97) hx hb dX8_wash_90 (by decide) (by decide) (fun z => absurd z (by decide)) (fun _ => ?_)
            refine lv_iconst (pc := 93) (v := zI 0) hx hb dX8_wash_93 rfl ?_
            refine lv_goto (pc := 94) (tgt := 115) hx hb dX8_wash_94 (by decide) ?_
            refine lv_istore (pc := 115) (lv' := [(6, .int (zI (0))), (5, .int (zI (gC ((clnG g ld (tbD p) i)) ((i : Int)) 6))), (0, .ref (am 0)), (1, .int (zI (p))), (2, .int (zI (ld))), (3, .int (zI (x))), (4, .int (zI ((i : Int))))]) hx hb dX8_wash_115 hl (by decide) rfl (fun ls hl => ?_)
            refine lv_aload_n (pc := 117) hx hb dX8_wash_117 rfl (lv_at hl 2 rfl) ?_
            refine lv_iload (pc := 118) hx hb dX8_wash_118 (lv_at hl 6 rfl) ?_
            refine lv_bipush (pc := 120) (v := zI 6) hx hb dX8_wash_120 zc_bipush_6 ?_
            refine lv_iload (pc := 122) hx hb dX8_wash_122 (lv_at hl 1 rfl) ?_
            refine lv_iload (pc := 124) hx hb dX8_wash_124 (lv_at hl 0 rfl) ?_
            refine zr_isub (pc := 126) (d := (gC ((clnG g ld (tbD p) i)) ((i : Int)) 6) - 0) hx hb dX8_wash_126 rfl ?_
            refine zr_vwv (pc := 127) (As := [.int (zI ((i : Int))), .int (zI (6)), .int (zI ((gC ((clnG g ld (tbD p) i)) ((i : Int)) 6) - 0))]) (rest := []) S (ct_X8_lay l D cI cT H.size am ((va_up μ16 1 (clnG g ld (tbD p) i))) ((clnG g ld (tbD p) i)) ((va_up_self ..)) hJ ((i : Int)) 6 ((gC ((clnG g ld (tbD p) i)) ((i : Int)) 6) - 0) (by omega) (by omega) (by decide) (by decide)) (cwV 3 hts gX8_wash_X8_lay rfl rfl rfl (by decide +kernel) ⟨Nat.le_of_ble_eq_true rfl, Nat.le_of_ble_eq_true rfl⟩) zs0 hK hP (zr_recv hK (hP 0 (by decide)) rfl) hS (fun q h => h.elim (fun ⟨k, k0, e⟩ => by rw [e]; exact hAin k k0) (fun z => hAn q (Nat.le_trans hS.1 z))) rfl hl.1 rfl (Nat.le_of_ble_eq_true rfl) dX8_wash_127 ⟨Nat.le_of_ble_eq_true rfl, Nat.le_of_ble_eq_true rfl⟩ (fun H locs hG hz hk hS => ?_)
            have hP := hG
            refine lv_iload_n (pc := 130) hx hb dX8_wash_130 rfl (lv_at hl 5 rfl) ?_
            refine lv_iload (pc := 131) hx hb dX8_wash_131 (lv_at hl 0 rfl) ?_
            refine zr_iadd (pc := 133) (d := x + 0) hx hb dX8_wash_133 rfl ?_
            refine lv_istore_n (pc := 134) (lv' := [(3, .int (zI (x + 0))), (6, .int (zI (0))), (5, .int (zI (gC ((clnG g ld (tbD p) i)) ((i : Int)) 6))), (0, .ref (am 0)), (1, .int (zI (p))), (2, .int (zI (ld))), (4, .int (zI ((i : Int))))]) hx hb dX8_wash_134 rfl hl (by decide) rfl (fun ls hl => ?_)
            refine zr_iinc (pc := 135) (d := ((i : Int)) + 1) (lv' := [(4, .int (zI (((i : Int)) + 1))), (3, .int (zI (x + 0))), (6, .int (zI (0))), (5, .int (zI (gC ((clnG g ld (tbD p) i)) ((i : Int)) 6))), (0, .ref (am 0)), (1, .int (zI (p))), (2, .int (zI (ld)))]) hx hb dX8_wash_135 hl (k := 6) rfl rfl (by decide) rfl (fun ls hl => ?_)
            refine lv_goto (pc := 138) (tgt := 63) hx hb dX8_wash_138 (by decide) ?_
            exact ih_63 (i + 1) ((x + 0)) H locs (⟨by omega, by have h6 := hg6 i (Int.le_refl _); rw [sm_s]; first | (rw [less, tif_t hb_87]; omega) | (rw [less, tif_f hb_87]; omega), by have h := hP; have h6 := hg6 i (Int.le_refl _); rw [su_va] at h; first | (rw [clnG_n hb_87]; rw [zu_same (show (gC ((clnG g ld (tbD p) i)) ((i : Int)) 6) - 0 = clnG g ld (tbD p) i (12 + 20 * (i : Int) + 6) from Int.sub_zero _)] at h; exact h) | (rw [clnG_y hb_87, show gC g (i : Int) 6 - min (gC g (i : Int) 6) (tbD p) = (gC ((clnG g ld (tbD p) i)) ((i : Int)) 6) - 0 by omega]; exact h)⟩) hS (by omega) ls (lv_sub hl [4, 5, 6, 1, 0] rfl)
      · refine zr_if_ne (pc := 47) (tgt := 54) hx hb dX8_wash_47 (by decide) (by decide) (fun z => absurd z (by decide)) (fun _ => ?_)
        refine lv_sipush (pc := 50) (v := zI (-2002)) hx hb dX8_wash_50 zc_sipush_m2002 ?_
        exact W.iret (v := zI ((-2002))) hx hb hr (fun tz ht hW => ⟨⟨zI ((-2002)), zI ((-2002)), rfl, rfl, by dsimp only; rw [ht]; exact ⟨_, _, _, _, (mR_sc hM 0 0 (by decide) (by decide)), oR_no ((tft (by omega)).trans (tff hb_44)) (by decide), hP⟩⟩, hS.F ht⟩) hS.2.2 dX8_wash_53
    · refine zr_if_ne (pc := 34) (tgt := 41) hx hb dX8_wash_34 (by decide) (by decide) (fun z => absurd z (by decide)) (fun _ => ?_)
      refine lv_sipush (pc := 37) (v := zI (-2001)) hx hb dX8_wash_37 zc_sipush_m2001 ?_
      exact W.iret (v := zI ((-2001))) hx hb hr (fun tz ht hW => ⟨⟨zI ((-2001)), zI ((-2001)), rfl, rfl, by dsimp only; rw [ht]; exact ⟨_, _, _, _, (mR_sc hM 0 0 (by decide) (by decide)), oR_no (tff (fun q => by omega)) (by decide), hP⟩⟩, hS.F ht⟩) hS.2.2 dX8_wash_40
  · refine zr_if_eq (pc := 14) (tgt := 37) hx hb dX8_wash_14 (by decide) (by decide) (fun _ => ?_) (fun z => absurd z (by decide))
    refine lv_sipush (pc := 37) (v := zI (-2001)) hx hb dX8_wash_37 zc_sipush_m2001 ?_
    exact W.iret (v := zI ((-2001))) hx hb hr (fun tz ht hW => ⟨⟨zI ((-2001)), zI ((-2001)), rfl, rfl, by dsimp only; rw [ht]; exact ⟨_, _, _, _, (mR_sc hM 0 0 (by decide) (by decide)), oR_no (tff (fun q => by omega)) (by decide), hP⟩⟩, hS.F ht⟩) hS.2.2 dX8_wash_40
