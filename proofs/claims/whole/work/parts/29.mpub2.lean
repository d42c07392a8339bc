set_option maxHeartbeats 4000000 in
set_option maxRecDepth 100000 in
theorem ct_X8_unpick (l : Launch) (D : va_G) (cI cT : ClassId) (sz : Nat) (am : Nat → Nat) (μ : Nat → Int → Int) (g : Int → Int) (n : Nat) (hs : Nat → Int → Int) (tl : Int) (tx : Int → Int) (hM : mR μ g n hs tl tx) (hI : Inv g) (hJ : zJ am 5) (c : Int) (r_c : -2147483648 ≤ c ∧ c ≤ 2147483647) : zMi l yX8_unpick wsX8_unpick ({ frames := 3, cells := 0, slots := 0, locals := 69 }) D cI cT [.ref (am 0), .int (zI (c))] sz (fun _ H => zW D am 5 (mC cI am μ) H) (fun rr H => ∃ (μ' : Nat → Int → Int) (g' : Int → Int) (n' : Nat) (hs' : Nat → Int → Int), mR μ' g' n' hs' tl tx ∧ oR (eUnp g c) (5 + 2 * zabs (gX g c (gC g c 7 - 1))) (zu (zu g (12 + 20 * c + 7) (gC g c 7 - 1)) 4 (g 4 + (5 + 2 * zabs (gX g c (gC g c 7 - 1))))) g n hs g' n' hs' rr ∧ zW D am 5 (mC cI am μ') H) (zR am 5 sz) := by
  refine Met.ofW (cc := cX8_unpick) (maxL := 4) (ret := (some .int)) (by decide) rfl ?_
  intro p_ e_ s m_ args below meth c_ s₁ B hml hv
  obtain ⟨rfl, hsz, hK, hF⟩ := hv
  have hx := B.exec
  have hb := B.bytes
  have hr := B.returns
  have hts := atoms_spec (ws := wsX8_unpick) B.pre
  have hown : s.vm.findClass RX8 = some m_.cls := findClass_of_methodNamed B.named
  have hlocks := B.notSynchronized
  have S : CallFix p_ m_ c_ cX8_unpick 4 s _ wsX8_unpick RX8 := ⟨hx, hb, hml, hown, hts⟩
  have i_X8 : ∀ w ∈ u_ws RX8 TX8 12, w ∈ wsX8_unpick := fun _ h => List.mem_cons_of_mem _ (List.mem_append_right _ h)
  subst hsz
  generalize hAe : (zR am 5 s.heap.size) = A
  have hAn : ∀ q : Nat, s.heap.size ≤ q → A q := fun q h => by rw [← hAe]; exact Or.inr h
  obtain ⟨H, hHe⟩ : ∃ H : Heap, H = s.heap := ⟨_, rfl⟩
  rw [← hHe] at hF ⊢
  have hS : va_S A s.heap H [] := by rw [hHe]; exact va_S.rf
  have hP := hF
  have hg := hM.1
  have hAin : ∀ k : Nat, k < 5 → A (am k) := fun k hk => by rw [← hAe]; exact Or.inl ⟨k, hk, rfl⟩
  have hnC := iv_nC hI
  have hl := lv_entry ([.ref (am 0), .int (zI (c))]) (n := 4) (Nat.le_of_ble_eq_true rfl)
  rw [lg_entry_eq]
  generalize (lg_sl ([.ref (am 0), .int (zI (c))]) ++ List.replicate (4 - (lg_sl ([.ref (am 0), .int (zI (c))])).length) Slot.unset).toArray = ls at hl ⊢
  have hl : lv_has ls 4 [(0, .ref (am 0)), (1, .int (zI (c)))] := hl
  refine lv_aload_n (pc := 0) hx hb dX8_unpick_0 rfl (lv_at hl 0 rfl) ?_
  refine lv_iconst (pc := 1) (v := zI 0) hx hb dX8_unpick_1 rfl ?_
  refine zr_put (pc := 2) S hK (hP 0 (by decide)) rfl i_X8 tyX8 tyX8_ok nmX8 0 (by decide) (List.mem_of_getElem? (i := 1) rfl) rfl rfl rfl (Nat.le_of_ble_eq_true rfl) hS (hAin 0 (by decide)) dX8_unpick_2 (fun H locs hO hz hk hS => ?_)
  have hP := zW.put hP hJ 0 (by decide) hO hk (mC_0_0 0)
  refine lv_aload_n (pc := 5) hx hb dX8_unpick_5 rfl (lv_at hl 0 rfl) ?_
  refine lv_iload_n (pc := 6) hx hb dX8_unpick_6 rfl (lv_at hl 1 rfl) ?_
  refine zr_vi (pc := 7) (As := [.int (zI (c))]) (rest := []) S (ct_X8_isCostume l D cI cT am ((su μ 0 0 0)) g (((su_ne (by decide) _ _).trans hg)) hI c (by omega)) (cwV 1 hts gX8_unpick_X8_isCostume rfl rfl rfl (by decide +kernel) ⟨Nat.le_of_ble_eq_true rfl, Nat.le_of_ble_eq_true rfl⟩) zs0 hK hP (zr_recv hK (hP 0 (by decide)) rfl) rfl hl.1 rfl (Nat.le_of_ble_eq_true rfl) dX8_unpick_7 ⟨Nat.le_of_ble_eq_true rfl, Nat.le_of_ble_eq_true rfl⟩ (fun r_7 hr_7 => ?_)
  rcases hr_7 with ⟨hb_7, rfl⟩ | ⟨hb_7, rfl⟩
  · refine zr_if_ne (pc := 10) (tgt := 17) hx hb dX8_unpick_10 (by decide) (by decide) (fun _ => ?_) (fun z => absurd z (by decide))
    have hna := iv_na hI (c := c) (by omega) (by omega)
    refine lv_aload_n (pc := 17) hx hb dX8_unpick_17 rfl (lv_at hl 0 rfl) ?_
    refine lv_iload_n (pc := 18) hx hb dX8_unpick_18 rfl (lv_at hl 1 rfl) ?_
    refine lv_bipush (pc := 19) (v := zI 7) hx hb dX8_unpick_19 zc_bipush_7 ?_
    refine zr_vi (pc := 21) (As := [.int (zI (c)), .int (zI (7))]) (rest := []) S (ct_X8_of l D cI cT am ((su μ 0 0 0)) g (((su_ne (by decide) _ _).trans hg)) hI c 7 (by omega) (by omega) (by omega) (by omega)) (cwV 2 hts gX8_unpick_X8_of rfl rfl rfl (by decide +kernel) ⟨Nat.le_of_ble_eq_true rfl, Nat.le_of_ble_eq_true rfl⟩) zs0 hK hP (zr_recv hK (hP 0 (by decide)) rfl) rfl hl.1 rfl (Nat.le_of_ble_eq_true rfl) dX8_unpick_21 ⟨Nat.le_of_ble_eq_true rfl, Nat.le_of_ble_eq_true rfl⟩ (fun r_21 hr_21 => ?_)
    subst hr_21
    refine lv_istore_n (pc := 24) (lv' := [(2, .int (zI (gC g c 7))), (0, .ref (am 0)), (1, .int (zI (c)))]) hx hb dX8_unpick_24 rfl hl (by decide) rfl (fun ls hl => ?_)
    refine lv_aload_n (pc := 25) hx hb dX8_unpick_25 rfl (lv_at hl 1 rfl) ?_
    refine lv_iload_n (pc := 26) hx hb dX8_unpick_26 rfl (lv_at hl 2 rfl) ?_
    refine zr_vi (pc := 27) (As := [.int (zI (c))]) (rest := []) S (ct_X8_isAwayToday l D cI cT am ((su μ 0 0 0)) g (((su_ne (by decide) _ _).trans hg)) hI c (by omega) (by omega)) (cwV 1 hts gX8_unpick_X8_isAwayToday rfl rfl rfl (by decide +kernel) ⟨Nat.le_of_ble_eq_true rfl, Nat.le_of_ble_eq_true rfl⟩) zs0 hK hP (zr_recv hK (hP 0 (by decide)) rfl) rfl hl.1 rfl (Nat.le_of_ble_eq_true rfl) dX8_unpick_27 ⟨Nat.le_of_ble_eq_true rfl, Nat.le_of_ble_eq_true rfl⟩ (fun r_27 hr_27 => ?_)
    rcases hr_27 with ⟨hb_27, rfl⟩ | ⟨hb_27, rfl⟩
    · refine zr_if_ne (pc := 30) (tgt := 37) hx hb dX8_unpick_30 (by decide) (by decide) (fun _ => ?_) (fun z => absurd z (by decide))
      refine lv_sipush (pc := 37) (v := zI (-2002)) hx hb dX8_unpick_37 zc_sipush_m2002 ?_
      exact W.iret (v := zI ((-2002))) hx hb hr (fun tz ht hW => ⟨⟨zI ((-2002)), zI ((-2002)), rfl, rfl, by dsimp only; rw [ht]; exact ⟨_, _, _, _, (mR_sc hM 0 0 (by decide) (by decide)), oR_no ((tft (by omega)).trans (tff (fun q => by first | exact q.1 hb_27 | (have q2 := q.2; omega)))) (by decide), hP⟩⟩, hS.F ht⟩) hS.2.2 dX8_unpick_40
    · refine zr_if_ne (pc := 30) (tgt := 37) hx hb dX8_unpick_30 (by decide) (by decide) (fun z => absurd z (by decide)) (fun _ => ?_)
      refine lv_iload_n (pc := 33) hx hb dX8_unpick_33 rfl (lv_at hl 0 rfl) ?_
      refine zr_if_ne (pc := 34) (tgt := 41) hx hb dX8_unpick_34 (by decide) (by omega) (fun c_34 => ?_) (fun c_34 => ?_)
      · refine lv_aload_n (pc := 41) hx hb dX8_unpick_41 rfl (lv_at hl 1 rfl) ?_
        refine zr_vwv (pc := 42) (As := []) (rest := []) S (ct_X8_act l D cI cT H.size am ((su μ 0 0 0)) g n hs tl tx (mR_sc hM 0 0 (by decide) (by decide)) hI hJ) (cwV 0 hts gX8_unpick_X8_act rfl rfl rfl (by decide +kernel) ⟨Nat.le_of_ble_eq_true rfl, Nat.le_of_ble_eq_true rfl⟩) zs0 hK hP (zr_recv hK (hP 0 (by decide)) rfl) hS (fun q h => h.elim (fun ⟨k, k0, e⟩ => by rw [e]; exact hAin k k0) (fun z => hAn q (Nat.le_trans hS.1 z))) rfl hl.1 rfl (Nat.le_of_ble_eq_true rfl) dX8_unpick_42 ⟨Nat.le_of_ble_eq_true rfl, Nat.le_of_ble_eq_true rfl⟩ (fun H locs hG hz hk hS => ?_)
        obtain ⟨μ12, ha12, hM12, hP⟩ := hG
        refine lv_aload_n (pc := 45) hx hb dX8_unpick_45 rfl (lv_at hl 1 rfl) ?_
        refine lv_iload_n (pc := 46) hx hb dX8_unpick_46 rfl (lv_at hl 2 rfl) ?_
        refine lv_bipush (pc := 47) (v := zI 7) hx hb dX8_unpick_47 zc_bipush_7 ?_
        refine lv_iload_n (pc := 49) hx hb dX8_unpick_49 rfl (lv_at hl 0 rfl) ?_
        refine lv_iconst (pc := 50) (v := zI 1) hx hb dX8_unpick_50 rfl ?_
        refine zr_isub (pc := 51) (d := (gC g c 7) - 1) hx hb dX8_unpick_51 rfl ?_
        refine zr_vwv (pc := 52) (As := [.int (zI (c)), .int (zI (7)), .int (zI ((gC g c 7) - 1))]) (rest := []) S (ct_X8_lay l D cI cT H.size am μ12 g hM12.1 hJ c 7 ((gC g c 7) - 1) (by omega) (by omega) (by decide) (by decide)) (cwV 3 hts gX8_unpick_X8_lay rfl rfl rfl (by decide +kernel) ⟨Nat.le_of_ble_eq_true rfl, Nat.le_of_ble_eq_true rfl⟩) zs0 hK hP (zr_recv hK (hP 0 (by decide)) rfl) hS (fun q h => h.elim (fun ⟨k, k0, e⟩ => by rw [e]; exact hAin k k0) (fun z => hAn q (Nat.le_trans hS.1 z))) rfl hl.1 rfl (Nat.le_of_ble_eq_true rfl) dX8_unpick_52 ⟨Nat.le_of_ble_eq_true rfl, Nat.le_of_ble_eq_true rfl⟩ (fun H locs hG hz hk hS => ?_)
        have hP := hG
        have hIm : Inv (zu g (12 + 20 * c + 7) (gC g c 7 - 1)) := inv_cnt (by omega) (by omega) (by omega) (Or.inl (by omega)) hI
        have ev : gC (zu g (12 + 20 * c + 7) (gC g c 7 - 1)) c (8 + 2 * gC g c 7 - 1) = gX g c (gC g c 7 - 1) := (gC_n (by omega)).trans (by show gC g c _ = gC g c _; congr 1; omega)
        have hac := iv_ac hI (c := c) (k := gC g c 7 - 1) (by omega) (by omega) (by omega) (by omega)
        refine lv_iconst (pc := 55) (v := zI 5) hx hb dX8_unpick_55 rfl ?_
        refine lv_iconst (pc := 56) (v := zI 2) hx hb dX8_unpick_56 rfl ?_
        refine lv_aload_n (pc := 57) hx hb dX8_unpick_57 rfl (lv_at hl 1 rfl) ?_
        refine lv_iload_n (pc := 58) hx hb dX8_unpick_58 rfl (lv_at hl 2 rfl) ?_
        refine lv_bipush (pc := 59) (v := zI 8) hx hb dX8_unpick_59 zc_bipush_8 ?_
        refine lv_iconst (pc := 61) (v := zI 2) hx hb dX8_unpick_61 rfl ?_
        refine lv_iload_n (pc := 62) hx hb dX8_unpick_62 rfl (lv_at hl 0 rfl) ?_
        refine zr_imul (pc := 63) (d := 2 * (gC g c 7)) hx hb dX8_unpick_63 rfl ?_
        refine zr_iadd (pc := 64) (d := 8 + (2 * (gC g c 7))) hx hb dX8_unpick_64 rfl ?_
        refine lv_iconst (pc := 65) (v := zI 1) hx hb dX8_unpick_65 rfl ?_
        refine zr_isub (pc := 66) (d := (8 + (2 * (gC g c 7))) - 1) hx hb dX8_unpick_66 rfl ?_
        refine zr_vi (pc := 67) (As := [.int (zI (c)), .int (zI ((8 + (2 * (gC g c 7))) - 1))]) (rest := [.int (zI (2)), .int (zI (5))]) S (ct_X8_of l D cI cT am ((su μ12 1 (12 + 20 * c + 7) ((gC g c 7) - 1))) ((zu g (12 + 20 * c + 7) ((gC g c 7) - 1))) (((su_eq _ _ _ _).trans (congrArg (fun fz => zu fz (12 + 20 * c + 7) ((gC g c 7) - 1)) hM12.1))) hIm c ((8 + (2 * (gC g c 7))) - 1) (by omega) (by omega) (by omega) (by omega)) (cwV 2 hts gX8_unpick_X8_of rfl rfl rfl (by decide +kernel) ⟨Nat.le_of_ble_eq_true rfl, Nat.le_of_ble_eq_true rfl⟩) zs0 hK hP (zr_recv hK (hP 0 (by decide)) rfl) rfl hl.1 rfl (Nat.le_of_ble_eq_true rfl) dX8_unpick_67 ⟨Nat.le_of_ble_eq_true rfl, Nat.le_of_ble_eq_true rfl⟩ (fun r_67 hr_67 => ?_)
        subst hr_67
        refine lv_iconst (pc := 70) (v := zI 0) hx hb dX8_unpick_70 rfl ?_
        refine zr_si (pc := 71) (As := [.int (zI (gC ((zu g (12 + 20 * c + 7) ((gC g c 7) - 1))) c ((8 + (2 * (gC g c 7))) - 1))), .int (zI (0))]) (rest := [.int (zI (2)), .int (zI (5))]) S (ct_X8_distance l D cI cT (gC ((zu g (12 + 20 * c + 7) ((gC g c 7) - 1))) c ((8 + (2 * (gC g c 7))) - 1)) 0 (by omega) (by decide)) (va_cwS 2 hts gX8_unpick_X8_distance rfl rfl rfl (by decide +kernel) ⟨Nat.le_of_ble_eq_true rfl, Nat.le_of_ble_eq_true rfl⟩) zs0 hK trivial rfl hl.1 rfl (Nat.le_of_ble_eq_true rfl) dX8_unpick_71 ⟨Nat.le_of_ble_eq_true rfl, Nat.le_of_ble_eq_true rfl⟩ (fun r_71 hr_71 => ?_)
        subst hr_71
        have hz_71 := zabs_nn ((gC ((zu g (12 + 20 * c + 7) ((gC g c 7) - 1))) c ((8 + (2 * (gC g c 7))) - 1)) - 0)
        have ez : zabs (gC (zu g (12 + 20 * c + 7) (gC g c 7 - 1)) c (8 + 2 * gC g c 7 - 1) - 0) = zabs (gX g c (gC g c 7 - 1)) := by rw [ev, Int.sub_zero]
        refine zr_imul (pc := 74) (d := 2 * (zabs ((gC ((zu g (12 + 20 * c + 7) ((gC g c 7) - 1))) c ((8 + (2 * (gC g c 7))) - 1)) - 0))) hx hb dX8_unpick_74 rfl ?_
        refine zr_iadd (pc := 75) (d := 5 + (2 * (zabs ((gC ((zu g (12 + 20 * c + 7) ((gC g c 7) - 1))) c ((8 + (2 * (gC g c 7))) - 1)) - 0)))) hx hb dX8_unpick_75 rfl ?_
        refine lv_istore_n (pc := 76) (lv' := [(3, .int (zI (5 + (2 * (zabs ((gC ((zu g (12 + 20 * c + 7) ((gC g c 7) - 1))) c ((8 + (2 * (gC g c 7))) - 1)) - 0)))))), (2, .int (zI (gC g c 7))), (0, .ref (am 0)), (1, .int (zI (c)))]) hx hb dX8_unpick_76 rfl hl (by decide) rfl (fun ls hl => ?_)
        refine lv_aload_n (pc := 77) hx hb dX8_unpick_77 rfl (lv_at hl 2 rfl) ?_
        refine zr_get (pc := 78) S hK (hP 0 (by decide)) rfl i_X8 1 (by decide) (List.mem_of_getElem? (i := 2) rfl) rfl dX8_unpick_78 ?_
        refine lv_iconst (pc := 81) (v := zI 4) hx hb dX8_unpick_81 rfl ?_
        refine lv_dup2_11 (pc := 82) hx hb dX8_unpick_82 rfl rfl ?_
        refine zr_ald (pc := 83) (n := 572) hx hb (zAr_of (zK_int hK) (hP 1 (by decide))) (by decide) (by decide) (by decide) dX8_unpick_83 ?_
        refine zr_top (b := g 4) ((congrFun ((su_eq _ _ _ _).trans (congrArg (fun fz => zu fz (12 + 20 * c + 7) ((gC g c 7) - 1)) hM12.1)) _).trans (if_neg (by omega))) ?_
        refine lv_iload_n (pc := 84) hx hb dX8_unpick_84 rfl (lv_at hl 0 rfl) ?_
        refine zr_iadd (pc := 85) (d := (g 4) + (5 + (2 * (zabs ((gC ((zu g (12 + 20 * c + 7) ((gC g c 7) - 1))) c ((8 + (2 * (gC g c 7))) - 1)) - 0))))) hx hb dX8_unpick_85 rfl ?_
        refine zr_ast (pc := 86) (k := 572) hx hb hK (hP 1 (by decide)) (by decide) (by decide) (by decide) hS (hAin 1 (by decide)) dX8_unpick_86 (fun H locs hO hz hk hS => ?_)
        have hP := zW.put hP hJ 1 (by decide) hO hk (mC_a 1 (by decide) _ _)
        refine lv_iload_n (pc := 87) hx hb dX8_unpick_87 rfl (lv_at hl 0 rfl) ?_
        exact W.iret (v := zI (5 + (2 * (zabs ((gC ((zu g (12 + 20 * c + 7) ((gC g c 7) - 1))) c ((8 + (2 * (gC g c 7))) - 1)) - 0))))) hx hb hr (fun tz ht hW => ⟨⟨zI (5 + (2 * (zabs ((gC ((zu g (12 + 20 * c + 7) ((gC g c 7) - 1))) c ((8 + (2 * (gC g c 7))) - 1)) - 0)))), zI (5 + (2 * (zabs ((gC ((zu g (12 + 20 * c + 7) ((gC g c 7) - 1))) c ((8 + (2 * (gC g c 7))) - 1)) - 0)))), rfl, rfl, by dsimp only; rw [ht]; exact ⟨_, _, _, _, (mR_put (mR_put hM12 (12 + 20 * c + 7) ((gC g c 7) - 1)) 4 ((g 4) + (5 + (2 * (zabs ((gC ((zu g (12 + 20 * c + 7) ((gC g c 7) - 1))) c ((8 + (2 * (gC g c 7))) - 1)) - 0)))))), oR_ok ((tft (by omega)).trans (tft ⟨hb_27, by omega⟩)) (by omega) (by rw [ez]), hP⟩⟩, hS.F ht⟩) hS.2.2 dX8_unpick_88
      · refine lv_sipush (pc := 37) (v := zI (-2002)) hx hb dX8_unpick_37 zc_sipush_m2002 ?_
        exact W.iret (v := zI ((-2002))) hx hb hr (fun tz ht hW => ⟨⟨zI ((-2002)), zI ((-2002)), rfl, rfl, by dsimp only; rw [ht]; exact ⟨_, _, _, _, (mR_sc hM 0 0 (by decide) (by decide)), oR_no ((tft (by omega)).trans (tff (fun q => by first | exact q.1 hb_27 | (have q2 := q.2; omega)))) (by decide), hP⟩⟩, hS.F ht⟩) hS.2.2 dX8_unpick_40
  · refine zr_if_ne (pc := 10) (tgt := 17) hx hb dX8_unpick_10 (by decide) (by decide) (fun z => absurd z (by decide)) (fun _ => ?_)
    refine lv_sipush (pc := 13) (v := zI (-2001)) hx hb dX8_unpick_13 zc_sipush_m2001 ?_
    exact W.iret (v := zI ((-2001))) hx hb hr (fun tz ht hW => ⟨⟨zI ((-2001)), zI ((-2001)), rfl, rfl, by dsimp only; rw [ht]; exact ⟨_, _, _, _, (mR_sc hM 0 0 (by decide) (by decide)), oR_no (tff (fun q => by omega)) (by decide), hP⟩⟩, hS.F ht⟩) hS.2.2 dX8_unpick_16
set_option maxHeartbeats 4000000 in
set_option maxRecDepth 100000 in
theorem ct_X8_hire (l : Launch) (D : va_G) (cI cT : ClassId) (sz : Nat) (am : Nat → Nat) (μ : Nat → Int → Int) (g : Int → Int) (n : Nat) (hs : Nat → Int → Int) (tl : Int) (tx : Int → Int) (hM : mR μ g n hs tl tx) (hI : Inv g) (hJ : zJ am 5) (c : Int) (f : Int) (d : Int) (r : Int) (r_c : -2147483648 ≤ c ∧ c ≤ 2147483647) (r_f : -2147483648 ≤ f ∧ f ≤ 2147483647) (r_d : -2147483648 ≤ d ∧ d ≤ 2147483647) (r_r : -2147483648 ≤ r ∧ r ≤ 2147483647) : zMi l yX8_hire wsX8_hire ({ frames := 2, cells := 0, slots := 0, locals := 48 }) D cI cT [.ref (am 0), .int (zI (c)), .int (zI (f)), .int (zI (d)), .int (zI (r))] sz (fun _ H => zW D am 5 (mC cI am μ) H) (fun rr H => ∃ (μ' : Nat → Int → Int) (g' : Int → Int) (n' : Nat) (hs' : Nat → Int → Int), mR μ' g' n' hs' tl tx ∧ oR (eHire g c f d r) (feeF d r) (zu (mkH g c f d (feeF d r) r) 5 (g 5 + feeF d r)) g n hs g' n' hs' rr ∧ zW D am 5 (mC cI am μ') H) (zR am 5 sz) := by
  refine Met.ofW (cc := cX8_hire) (maxL := 6) (ret := (some .int)) (by decide) rfl ?_
  intro p_ e_ s m_ args below meth c_ s₁ B hml hv
  obtain ⟨rfl, hsz, hK, hF⟩ := hv
  have hx := B.exec
  have hb := B.bytes
  have hr := B.returns
  have hts := atoms_spec (ws := wsX8_hire) B.pre
  have hown : s.vm.findClass RX8 = some m_.cls := findClass_of_methodNamed B.named
  have hlocks := B.notSynchronized
  have S : CallFix p_ m_ c_ cX8_hire 6 s _ wsX8_hire RX8 := ⟨hx, hb, hml, hown, hts⟩
  have i_X8 : ∀ w ∈ u_ws RX8 TX8 12, w ∈ wsX8_hire := fun _ h => List.mem_cons_of_mem _ (List.mem_append_right _ h)
  subst hsz
  generalize hAe : (zR am 5 s.heap.size) = A
  have hAn : ∀ q : Nat, s.heap.size ≤ q → A q := fun q h => by rw [← hAe]; exact Or.inr h
  obtain ⟨H, hHe⟩ : ∃ H : Heap, H = s.heap := ⟨_, rfl⟩
  rw [← hHe] at hF ⊢
  have hS : va_S A s.heap H [] := by rw [hHe]; exact va_S.rf
  have hP := hF
  have hg := hM.1
  have hAin : ∀ k : Nat, k < 5 → A (am k) := fun k hk => by rw [← hAe]; exact Or.inl ⟨k, hk, rfl⟩
  have hnC := iv_nC hI
  have hnH := iv_nH hI
  have hto := iv_to hI
  have hl := lv_entry ([.ref (am 0), .int (zI (c)), .int (zI (f)), .int (zI (d)), .int (zI (r))]) (n := 6) (Nat.le_of_ble_eq_true rfl)
  rw [lg_entry_eq]
  generalize (lg_sl ([.ref (am 0), .int (zI (c)), .int (zI (f)), .int (zI (d)), .int (zI (r))]) ++ List.replicate (6 - (lg_sl ([.ref (am 0), .int (zI (c)), .int (zI (f)), .int (zI (d)), .int (zI (r))])).length) Slot.unset).toArray = ls at hl ⊢
  have hl : lv_has ls 6 [(0, .ref (am 0)), (1, .int (zI (c))), (2, .int (zI (f))), (3, .int (zI (d))), (4, .int (zI (r)))] := hl
  refine lv_aload_n (pc := 0) hx hb dX8_hire_0 rfl (lv_at hl 0 rfl) ?_
  refine lv_iconst (pc := 1) (v := zI 0) hx hb dX8_hire_1 rfl ?_
  refine zr_put (pc := 2) S hK (hP 0 (by decide)) rfl i_X8 tyX8 tyX8_ok nmX8 0 (by decide) (List.mem_of_getElem? (i := 1) rfl) rfl rfl rfl (Nat.le_of_ble_eq_true rfl) hS (hAin 0 (by decide)) dX8_hire_2 (fun H locs hO hz hk hS => ?_)
  have hP := zW.put hP hJ 0 (by decide) hO hk (mC_0_0 0)
  refine lv_aload_n (pc := 5) hx hb dX8_hire_5 rfl (lv_at hl 0 rfl) ?_
  refine lv_iload_n (pc := 6) hx hb dX8_hire_6 rfl (lv_at hl 1 rfl) ?_
  refine zr_vi (pc := 7) (As := [.int (zI (c))]) (rest := []) S (ct_X8_isCostume l D cI cT am ((su μ 0 0 0)) g (((su_ne (by decide) _ _).trans hg)) hI c (by omega)) (cwV 1 hts gX8_hire_X8_isCostume rfl rfl rfl (by decide +kernel) ⟨Nat.le_of_ble_eq_true rfl, Nat.le_of_ble_eq_true rfl⟩) zs0 hK hP (zr_recv hK (hP 0 (by decide)) rfl) rfl hl.1 rfl (Nat.le_of_ble_eq_true rfl) dX8_hire_7 ⟨Nat.le_of_ble_eq_true rfl, Nat.le_of_ble_eq_true rfl⟩ (fun r_7 hr_7 => ?_)
  rcases hr_7 with ⟨hb_7, rfl⟩ | ⟨hb_7, rfl⟩
  · refine zr_if_eq (pc := 10) (tgt := 56) hx hb dX8_hire_10 (by decide) (by decide) (fun z => absurd z (by decide)) (fun _ => ?_)
    refine lv_iload_n (pc := 13) hx hb dX8_hire_13 rfl (lv_at hl 2 rfl) ?_
    refine zr_i2l (pc := 14) hx hb dX8_hire_14 (by omega) ?_
    refine lv_aload_n (pc := 15) hx hb dX8_hire_15 rfl (lv_at hl 0 rfl) ?_
    refine zr_get (pc := 16) S hK (hP 0 (by decide)) rfl i_X8 1 (by decide) (List.mem_of_getElem? (i := 2) rfl) rfl dX8_hire_16 ?_
    refine lv_iconst (pc := 19) (v := zI 3) hx hb dX8_hire_19 rfl ?_
    refine zr_ald (pc := 20) (n := 572) hx hb (zAr_of (zK_int hK) (hP 1 (by decide))) (by decide) (by decide) (by decide) dX8_hire_20 ?_
    refine zr_top (b := g 3) (congrFun ((su_ne (by decide) _ _).trans hg) _) ?_
    refine zr_i2l (pc := 21) hx hb dX8_hire_21 (by omega) ?_
    refine zr_ldc2 (pc := 22) (w := 300) hx hb hown (hts _ (List.mem_of_getElem? (i := 3) rfl)) dX8_hire_22 (by decide +kernel) ?_
    refine zr_si (pc := 25) (As := [.long (zL (f)), .long (zL (g 3)), .long (zL (300))]) (rest := []) S (ct_X8_in l D cI cT f (g 3) 300 (by omega) (by omega) (by decide)) (va_cwS 3 hts gX8_hire_X8_in rfl rfl rfl (by decide +kernel) ⟨Nat.le_of_ble_eq_true rfl, Nat.le_of_ble_eq_true rfl⟩) zs0 hK trivial rfl hl.1 rfl (Nat.le_of_ble_eq_true rfl) dX8_hire_25 ⟨Nat.le_of_ble_eq_true rfl, Nat.le_of_ble_eq_true rfl⟩ (fun r_25 hr_25 => ?_)
    rcases hr_25 with ⟨hb_25, rfl⟩ | ⟨hb_25, rfl⟩
    · refine zr_if_eq (pc := 28) (tgt := 56) hx hb dX8_hire_28 (by decide) (by decide) (fun z => absurd z (by decide)) (fun _ => ?_)
      refine lv_iload_n (pc := 31) hx hb dX8_hire_31 rfl (lv_at hl 3 rfl) ?_
      refine zr_i2l (pc := 32) hx hb dX8_hire_32 (by omega) ?_
      refine lv_lconst (pc := 33) (v := zL 1) hx hb dX8_hire_33 rfl ?_
      refine zr_ldc2 (pc := 34) (w := 60) hx hb hown (hts _ (List.mem_of_getElem? (i := 4) rfl)) dX8_hire_34 (by decide +kernel) ?_
      refine zr_si (pc := 37) (As := [.long (zL (d)), .long (zL (1)), .long (zL (60))]) (rest := []) S (ct_X8_in l D cI cT d 1 60 (by omega) (by decide) (by decide)) (va_cwS 3 hts gX8_hire_X8_in rfl rfl rfl (by decide +kernel) ⟨Nat.le_of_ble_eq_true rfl, Nat.le_of_ble_eq_true rfl⟩) zs0 hK trivial rfl hl.1 rfl (Nat.le_of_ble_eq_true rfl) dX8_hire_37 ⟨Nat.le_of_ble_eq_true rfl, Nat.le_of_ble_eq_true rfl⟩ (fun r_37 hr_37 => ?_)
      rcases hr_37 with ⟨hb_37, rfl⟩ | ⟨hb_37, rfl⟩
      · refine zr_if_eq (pc := 40) (tgt := 56) hx hb dX8_hire_40 (by decide) (by decide) (fun z => absurd z (by decide)) (fun _ => ?_)
        refine lv_iload (pc := 43) hx hb dX8_hire_43 (lv_at hl 4 rfl) ?_
        refine zr_i2l (pc := 45) hx hb dX8_hire_45 (by omega) ?_
        refine lv_lconst (pc := 46) (v := zL 1) hx hb dX8_hire_46 rfl ?_
        refine zr_ldc2 (pc := 47) (w := 50) hx hb hown (hts _ (List.mem_of_getElem? (i := 5) rfl)) dX8_hire_47 (by decide +kernel) ?_
        refine zr_si (pc := 50) (As := [.long (zL (r)), .long (zL (1)), .long (zL (50))]) (rest := []) S (ct_X8_in l D cI cT r 1 50 (by omega) (by decide) (by decide)) (va_cwS 3 hts gX8_hire_X8_in rfl rfl rfl (by decide +kernel) ⟨Nat.le_of_ble_eq_true rfl, Nat.le_of_ble_eq_true rfl⟩) zs0 hK trivial rfl hl.1 rfl (Nat.le_of_ble_eq_true rfl) dX8_hire_50 ⟨Nat.le_of_ble_eq_true rfl, Nat.le_of_ble_eq_true rfl⟩ (fun r_50 hr_50 => ?_)
        rcases hr_50 with ⟨hb_50, rfl⟩ | ⟨hb_50, rfl⟩
        · refine zr_if_ne (pc := 53) (tgt := 60) hx hb dX8_hire_53 (by decide) (by decide) (fun _ => ?_) (fun z => absurd z (by decide))
          refine lv_aload_n (pc := 60) hx hb dX8_hire_60 rfl (lv_at hl 0 rfl) ?_
          refine lv_iload_n (pc := 61) hx hb dX8_hire_61 rfl (lv_at hl 1 rfl) ?_
          refine lv_iload_n (pc := 62) hx hb dX8_hire_62 rfl (lv_at hl 2 rfl) ?_
          refine lv_iload_n (pc := 63) hx hb dX8_hire_63 rfl (lv_at hl 3 rfl) ?_
          refine zr_vi (pc := 64) (As := [.int (zI (c)), .int (zI (f)), .int (zI (d))]) (rest := []) S (ct_X8_isAwayIn l D cI cT am ((su μ 0 0 0)) g (((su_ne (by decide) _ _).trans hg)) hI c f d (by omega) (by omega) (by omega) (by omega) (by omega) (by omega)) (cwV 3 hts gX8_hire_X8_isAwayIn rfl rfl rfl (by decide +kernel) ⟨Nat.le_of_ble_eq_true rfl, Nat.le_of_ble_eq_true rfl⟩) zs0 hK hP (zr_recv hK (hP 0 (by decide)) rfl) rfl hl.1 rfl (Nat.le_of_ble_eq_true rfl) dX8_hire_64 ⟨Nat.le_of_ble_eq_true rfl, Nat.le_of_ble_eq_true rfl⟩ (fun r_64 hr_64 => ?_)
          rcases hr_64 with ⟨hb_64, rfl⟩ | ⟨hb_64, rfl⟩
          · refine zr_if_eq (pc := 67) (tgt := 74) hx hb dX8_hire_67 (by decide) (by decide) (fun z => absurd z (by decide)) (fun _ => ?_)
            refine lv_sipush (pc := 70) (v := zI (-2002)) hx hb dX8_hire_70 zc_sipush_m2002 ?_
            exact W.iret (v := zI ((-2002))) hx hb hr (fun tz ht hW => ⟨⟨zI ((-2002)), zI ((-2002)), rfl, rfl, by dsimp only; rw [ht]; exact ⟨_, _, _, _, (mR_sc hM 0 0 (by decide) (by decide)), oR_no ((tft (by omega)).trans (tff (fun q => q hb_64))) (by decide), hP⟩⟩, hS.F ht⟩) hS.2.2 dX8_hire_73
          · refine zr_if_eq (pc := 67) (tgt := 74) hx hb dX8_hire_67 (by decide) (by decide) (fun _ => ?_) (fun z => absurd z (by decide))
            refine lv_aload_n (pc := 74) hx hb dX8_hire_74 rfl (lv_at hl 0 rfl) ?_
            refine zr_get (pc := 75) S hK (hP 0 (by decide)) rfl i_X8 1 (by decide) (List.mem_of_getElem? (i := 2) rfl) rfl dX8_hire_75 ?_
            refine lv_iconst (pc := 78) (v := zI 2) hx hb dX8_hire_78 rfl ?_
            refine zr_ald (pc := 79) (n := 572) hx hb (zAr_of (zK_int hK) (hP 1 (by decide))) (by decide) (by decide) (by decide) dX8_hire_79 ?_
            refine zr_top (b := g 2) (congrFun ((su_ne (by decide) _ _).trans hg) _) ?_
            refine lv_bipush (pc := 80) (v := zI 24) hx hb dX8_hire_80 zc_bipush_24 ?_
            refine zr_icmp_ne (pc := 82) (tgt := 89) hx hb dX8_hire_82 (by decide) (by omega) (by decide) (fun c_82 => ?_) (fun c_82 => ?_)
            · refine lv_aload_n (pc := 89) hx hb dX8_hire_89 rfl (lv_at hl 0 rfl) ?_
              refine zr_vwv (pc := 90) (As := []) (rest := []) S (ct_X8_act l D cI cT H.size am ((su μ 0 0 0)) g n hs tl tx (mR_sc hM 0 0 (by decide) (by decide)) hI hJ) (cwV 0 hts gX8_hire_X8_act rfl rfl rfl (by decide +kernel) ⟨Nat.le_of_ble_eq_true rfl, Nat.le_of_ble_eq_true rfl⟩) zs0 hK hP (zr_recv hK (hP 0 (by decide)) rfl) hS (fun q h => h.elim (fun ⟨k, k0, e⟩ => by rw [e]; exact hAin k k0) (fun z => hAn q (Nat.le_trans hS.1 z))) rfl hl.1 rfl (Nat.le_of_ble_eq_true rfl) dX8_hire_90 ⟨Nat.le_of_ble_eq_true rfl, Nat.le_of_ble_eq_true rfl⟩ (fun H locs hG hz hk hS => ?_)
              obtain ⟨μ13, ha13, hM13, hP⟩ := hG
              refine lv_sipush (pc := 93) (v := zI 452) hx hb dX8_hire_93 zc_sipush_452 ?_
              refine lv_iconst (pc := 96) (v := zI 5) hx hb dX8_hire_96 rfl ?_
              refine lv_aload_n (pc := 97) hx hb dX8_hire_97 rfl (lv_at hl 0 rfl) ?_
              refine zr_get (pc := 98) S hK (hP 0 (by decide)) rfl i_X8 1 (by decide) (List.mem_of_getElem? (i := 2) rfl) rfl dX8_hire_98 ?_
              refine lv_iconst (pc := 101) (v := zI 2) hx hb dX8_hire_101 rfl ?_
              refine zr_ald (pc := 102) (n := 572) hx hb (zAr_of (zK_int hK) (hP 1 (by decide))) (by decide) (by decide) (by decide) dX8_hire_102 ?_
              refine zr_top (b := g 2) (congrFun hM13.1 _) ?_
              refine zr_imul (pc := 103) (d := 5 * (g 2)) hx hb dX8_hire_103 rfl ?_
              refine zr_iadd (pc := 104) (d := 452 + (5 * (g 2))) hx hb dX8_hire_104 rfl ?_
              refine lv_istore (pc := 105) (lv' := [(5, .int (zI (452 + (5 * (g 2))))), (0, .ref (am 0)), (1, .int (zI (c))), (2, .int (zI (f))), (3, .int (zI (d))), (4, .int (zI (r)))]) hx hb dX8_hire_105 hl (by decide) rfl (fun ls hl => ?_)
              refine lv_aload_n (pc := 107) hx hb dX8_hire_107 rfl (lv_at hl 1 rfl) ?_
              refine zr_get (pc := 108) S hK (hP 0 (by decide)) rfl i_X8 1 (by decide) (List.mem_of_getElem? (i := 2) rfl) rfl dX8_hire_108 ?_
              refine lv_iconst (pc := 111) (v := zI 2) hx hb dX8_hire_111 rfl ?_
              refine lv_dup2_11 (pc := 112) hx hb dX8_hire_112 rfl rfl ?_
              refine zr_ald (pc := 113) (n := 572) hx hb (zAr_of (zK_int hK) (hP 1 (by decide))) (by decide) (by decide) (by decide) dX8_hire_113 ?_
              refine zr_top (b := g 2) (congrFun hM13.1 _) ?_
              refine lv_iconst (pc := 114) (v := zI 1) hx hb dX8_hire_114 rfl ?_
              refine zr_iadd (pc := 115) (d := (g 2) + 1) hx hb dX8_hire_115 rfl ?_
              refine zr_ast (pc := 116) (k := 572) hx hb hK (hP 1 (by decide)) (by decide) (by decide) (by decide) hS (hAin 1 (by decide)) dX8_hire_116 (fun H locs hO hz hk hS => ?_)
              have hP := zW.put hP hJ 1 (by decide) hO hk (mC_a 1 (by decide) _ _)
              refine lv_aload_n (pc := 117) hx hb dX8_hire_117 rfl (lv_at hl 1 rfl) ?_
              refine zr_get (pc := 118) S hK (hP 0 (by decide)) rfl i_X8 1 (by decide) (List.mem_of_getElem? (i := 2) rfl) rfl dX8_hire_118 ?_
              refine lv_iload (pc := 121) hx hb dX8_hire_121 (lv_at hl 0 rfl) ?_
              refine lv_iconst (pc := 123) (v := zI 0) hx hb dX8_hire_123 rfl ?_
              refine zr_iadd (pc := 124) (d := (452 + (5 * (g 2))) + 0) hx hb dX8_hire_124 rfl ?_
              refine lv_iload_n (pc := 125) hx hb dX8_hire_125 rfl (lv_at hl 2 rfl) ?_
              refine zr_ast (pc := 126) (k := 572) hx hb hK (hP 1 (by decide)) (by omega) (by omega) (by decide) hS (hAin 1 (by decide)) dX8_hire_126 (fun H locs hO hz hk hS => ?_)
              have hP := zW.put hP hJ 1 (by decide) hO hk (mC_a 1 (by decide) _ _)
              refine lv_aload_n (pc := 127) hx hb dX8_hire_127 rfl (lv_at hl 1 rfl) ?_
              refine zr_get (pc := 128) S hK (hP 0 (by decide)) rfl i_X8 1 (by decide) (List.mem_of_getElem? (i := 2) rfl) rfl dX8_hire_128 ?_
              refine lv_iload (pc := 131) hx hb dX8_hire_131 (lv_at hl 0 rfl) ?_
              refine lv_iconst (pc := 133) (v := zI 1) hx hb dX8_hire_133 rfl ?_
              refine zr_iadd (pc := 134) (d := (452 + (5 * (g 2))) + 1) hx hb dX8_hire_134 rfl ?_
              refine lv_iload_n (pc := 135) hx hb dX8_hire_135 rfl (lv_at hl 3 rfl) ?_
              refine zr_ast (pc := 136) (k := 572) hx hb hK (hP 1 (by decide)) (by omega) (by omega) (by decide) hS (hAin 1 (by decide)) dX8_hire_136 (fun H locs hO hz hk hS => ?_)
              have hP := zW.put hP hJ 1 (by decide) hO hk (mC_a 1 (by decide) _ _)
              refine lv_aload_n (pc := 137) hx hb dX8_hire_137 rfl (lv_at hl 1 rfl) ?_
              refine zr_get (pc := 138) S hK (hP 0 (by decide)) rfl i_X8 1 (by decide) (List.mem_of_getElem? (i := 2) rfl) rfl dX8_hire_138 ?_
              refine lv_iload (pc := 141) hx hb dX8_hire_141 (lv_at hl 0 rfl) ?_
              refine lv_iconst (pc := 143) (v := zI 2) hx hb dX8_hire_143 rfl ?_
              refine zr_iadd (pc := 144) (d := (452 + (5 * (g 2))) + 2) hx hb dX8_hire_144 rfl ?_
              refine lv_iload_n (pc := 145) hx hb dX8_hire_145 rfl (lv_at hl 4 rfl) ?_
              refine zr_ast (pc := 146) (k := 572) hx hb hK (hP 1 (by decide)) (by omega) (by omega) (by decide) hS (hAin 1 (by decide)) dX8_hire_146 (fun H locs hO hz hk hS => ?_)
              have hP := zW.put hP hJ 1 (by decide) hO hk (mC_a 1 (by decide) _ _)
              refine lv_aload_n (pc := 147) hx hb dX8_hire_147 rfl (lv_at hl 1 rfl) ?_
              refine zr_get (pc := 148) S hK (hP 0 (by decide)) rfl i_X8 1 (by decide) (List.mem_of_getElem? (i := 2) rfl) rfl dX8_hire_148 ?_
              refine lv_iload (pc := 151) hx hb dX8_hire_151 (lv_at hl 0 rfl) ?_
              refine lv_iconst (pc := 153) (v := zI 3) hx hb dX8_hire_153 rfl ?_
              refine zr_iadd (pc := 154) (d := (452 + (5 * (g 2))) + 3) hx hb dX8_hire_154 rfl ?_
              refine lv_iload_n (pc := 155) hx hb dX8_hire_155 rfl (lv_at hl 4 rfl) ?_
              refine lv_iload (pc := 156) hx hb dX8_hire_156 (lv_at hl 5 rfl) ?_
              refine zr_si (pc := 158) (As := [.int (zI (d)), .int (zI (r))]) (rest := [.int (zI ((452 + (5 * (g 2))) + 3)), .ref (am 1)]) S (ct_X8_feeOf l D cI cT d r (by omega) (by omega) (by omega) (by omega)) (va_cwS 2 hts gX8_hire_X8_feeOf rfl rfl rfl (by decide +kernel) ⟨Nat.le_of_ble_eq_true rfl, Nat.le_of_ble_eq_true rfl⟩) zs0 hK trivial rfl hl.1 rfl (Nat.le_of_ble_eq_true rfl) dX8_hire_158 ⟨Nat.le_of_ble_eq_true rfl, Nat.le_of_ble_eq_true rfl⟩ (fun r_158 hr_158 => ?_)
              subst hr_158
              refine zr_ast (pc := 161) (k := 572) hx hb hK (hP 1 (by decide)) (by omega) (by omega) (by decide) hS (hAin 1 (by decide)) dX8_hire_161 (fun H locs hO hz hk hS => ?_)
              have hP := zW.put hP hJ 1 (by decide) hO hk (mC_a 1 (by decide) _ _)
              refine lv_aload_n (pc := 162) hx hb dX8_hire_162 rfl (lv_at hl 1 rfl) ?_
              refine zr_get (pc := 163) S hK (hP 0 (by decide)) rfl i_X8 1 (by decide) (List.mem_of_getElem? (i := 2) rfl) rfl dX8_hire_163 ?_
              refine lv_iload (pc := 166) hx hb dX8_hire_166 (lv_at hl 0 rfl) ?_
              refine lv_iconst (pc := 168) (v := zI 4) hx hb dX8_hire_168 rfl ?_
              refine zr_iadd (pc := 169) (d := (452 + (5 * (g 2))) + 4) hx hb dX8_hire_169 rfl ?_
              refine lv_iload (pc := 170) hx hb dX8_hire_170 (lv_at hl 5 rfl) ?_
              refine zr_ast (pc := 172) (k := 572) hx hb hK (hP 1 (by decide)) (by omega) (by omega) (by decide) hS (hAin 1 (by decide)) dX8_hire_172 (fun H locs hO hz hk hS => ?_)
              have hP := zW.put hP hJ 1 (by decide) hO hk (mC_a 1 (by decide) _ _)
              refine lv_aload_n (pc := 173) hx hb dX8_hire_173 rfl (lv_at hl 1 rfl) ?_
              refine zr_get (pc := 174) S hK (hP 0 (by decide)) rfl i_X8 1 (by decide) (List.mem_of_getElem? (i := 2) rfl) rfl dX8_hire_174 ?_
              refine lv_iconst (pc := 177) (v := zI 5) hx hb dX8_hire_177 rfl ?_
              refine lv_dup2_11 (pc := 178) hx hb dX8_hire_178 rfl rfl ?_
              refine zr_ald (pc := 179) (n := 572) hx hb (zAr_of (zK_int hK) (hP 1 (by decide))) (by decide) (by decide) (by decide) dX8_hire_179 ?_
              refine zr_top (b := g 5) ((congrFun ((su_eq _ _ _ _).trans (congrArg (fun fz => zu fz ((452 + (5 * (g 2))) + 4) r) ((su_eq _ _ _ _).trans (congrArg (fun fz => zu fz ((452 + (5 * (g 2))) + 3) (feeF d r)) ((su_eq _ _ _ _).trans (congrArg (fun fz => zu fz ((452 + (5 * (g 2))) + 2) d) ((su_eq _ _ _ _).trans (congrArg (fun fz => zu fz ((452 + (5 * (g 2))) + 1) f) ((su_eq _ _ _ _).trans (congrArg (fun fz => zu fz ((452 + (5 * (g 2))) + 0) c) ((su_eq _ _ _ _).trans (congrArg (fun fz => zu fz 2 ((g 2) + 1)) hM13.1)))))))))))) _).trans (by simp only [zu]; rw [if_neg (by omega), if_neg (by omega), if_neg (by omega), if_neg (by omega), if_neg (by omega), if_neg (by omega)])) ?_
              refine lv_aload_n (pc := 180) hx hb dX8_hire_180 rfl (lv_at hl 1 rfl) ?_
              refine zr_get (pc := 181) S hK (hP 0 (by decide)) rfl i_X8 1 (by decide) (List.mem_of_getElem? (i := 2) rfl) rfl dX8_hire_181 ?_
              refine lv_iload (pc := 184) hx hb dX8_hire_184 (lv_at hl 0 rfl) ?_
              refine lv_iconst (pc := 186) (v := zI 3) hx hb dX8_hire_186 rfl ?_
              refine zr_iadd (pc := 187) (d := (452 + (5 * (g 2))) + 3) hx hb dX8_hire_187 rfl ?_
              refine zr_ald (pc := 188) (n := 572) hx hb (zAr_of (zK_int hK) (hP 1 (by decide))) (by omega) (by omega) (by decide) dX8_hire_188 ?_
              refine zr_top (b := feeF d r) ((congrFun ((su_eq _ _ _ _).trans (congrArg (fun fz => zu fz ((452 + (5 * (g 2))) + 4) r) ((su_eq _ _ _ _).trans (congrArg (fun fz => zu fz ((452 + (5 * (g 2))) + 3) (feeF d r)) ((su_eq _ _ _ _).trans (congrArg (fun fz => zu fz ((452 + (5 * (g 2))) + 2) d) ((su_eq _ _ _ _).trans (congrArg (fun fz => zu fz ((452 + (5 * (g 2))) + 1) f) ((su_eq _ _ _ _).trans (congrArg (fun fz => zu fz ((452 + (5 * (g 2))) + 0) c) ((su_eq _ _ _ _).trans (congrArg (fun fz => zu fz 2 ((g 2) + 1)) hM13.1)))))))))))) _).trans ((zu_n (by omega)).trans (if_pos (by omega)))) ?_
              refine zr_iadd (pc := 189) (d := (g 5) + (feeF d r)) hx hb dX8_hire_189 rfl ?_
              refine zr_ast (pc := 190) (k := 572) hx hb hK (hP 1 (by decide)) (by decide) (by decide) (by decide) hS (hAin 1 (by decide)) dX8_hire_190 (fun H locs hO hz hk hS => ?_)
              have hP := zW.put hP hJ 1 (by decide) hO hk (mC_a 1 (by decide) _ _)
              refine lv_aload_n (pc := 191) hx hb dX8_hire_191 rfl (lv_at hl 1 rfl) ?_
              refine zr_get (pc := 192) S hK (hP 0 (by decide)) rfl i_X8 1 (by decide) (List.mem_of_getElem? (i := 2) rfl) rfl dX8_hire_192 ?_
              refine lv_iload (pc := 195) hx hb dX8_hire_195 (lv_at hl 0 rfl) ?_
              refine lv_iconst (pc := 197) (v := zI 3) hx hb dX8_hire_197 rfl ?_
              refine zr_iadd (pc := 198) (d := (452 + (5 * (g 2))) + 3) hx hb dX8_hire_198 rfl ?_
              refine zr_ald (pc := 199) (n := 572) hx hb (zAr_of (zK_int hK) (hP 1 (by decide))) (by omega) (by omega) (by decide) dX8_hire_199 ?_
              refine zr_top (b := feeF d r) ((congrFun ((su_eq _ _ _ _).trans (congrArg (fun fz => zu fz 5 ((g 5) + (feeF d r))) ((su_eq _ _ _ _).trans (congrArg (fun fz => zu fz ((452 + (5 * (g 2))) + 4) r) ((su_eq _ _ _ _).trans (congrArg (fun fz => zu fz ((452 + (5 * (g 2))) + 3) (feeF d r)) ((su_eq _ _ _ _).trans (congrArg (fun fz => zu fz ((452 + (5 * (g 2))) + 2) d) ((su_eq _ _ _ _).trans (congrArg (fun fz => zu fz ((452 + (5 * (g 2))) + 1) f) ((su_eq _ _ _ _).trans (congrArg (fun fz => zu fz ((452 + (5 * (g 2))) + 0) c) ((su_eq _ _ _ _).trans (congrArg (fun fz => zu fz 2 ((g 2) + 1)) hM13.1)))))))))))))) _).trans ((zu_n (by omega)).trans ((zu_n (by omega)).trans (if_pos (by omega))))) ?_
              exact W.iret (v := zI (feeF d r)) hx hb hr (fun tz ht hW => ⟨⟨zI (feeF d r), zI (feeF d r), rfl, rfl, by dsimp only; rw [ht]; exact ⟨_, _, _, _, (mR_put (mR_put (mR_put (mR_put (mR_put (mR_put (mR_put hM13 2 ((g 2) + 1)) ((452 + (5 * (g 2))) + 0) c) ((452 + (5 * (g 2))) + 1) f) ((452 + (5 * (g 2))) + 2) d) ((452 + (5 * (g 2))) + 3) (feeF d r)) ((452 + (5 * (g 2))) + 4) r) 5 ((g 5) + (feeF d r))), oR_ok ((tft (by omega)).trans ((tft hb_64).trans (tft (by omega)))) (rfl) (by rw [mkH_z g hnH.1]), hP⟩⟩, hS.F ht⟩) hS.2.2 dX8_hire_200
            · refine lv_sipush (pc := 85) (v := zI (-2003)) hx hb dX8_hire_85 zc_sipush_m2003 ?_
              exact W.iret (v := zI ((-2003))) hx hb hr (fun tz ht hW => ⟨⟨zI ((-2003)), zI ((-2003)), rfl, rfl, by dsimp only; rw [ht]; exact ⟨_, _, _, _, (mR_sc hM 0 0 (by decide) (by decide)), oR_no ((tft (by omega)).trans ((tft hb_64).trans (tff (by omega)))) (by decide), hP⟩⟩, hS.F ht⟩) hS.2.2 dX8_hire_88
        · refine zr_if_ne (pc := 53) (tgt := 60) hx hb dX8_hire_53 (by decide) (by decide) (fun z => absurd z (by decide)) (fun _ => ?_)
          refine lv_sipush (pc := 56) (v := zI (-2001)) hx hb dX8_hire_56 zc_sipush_m2001 ?_
          exact W.iret (v := zI ((-2001))) hx hb hr (fun tz ht hW => ⟨⟨zI ((-2001)), zI ((-2001)), rfl, rfl, by dsimp only; rw [ht]; exact ⟨_, _, _, _, (mR_sc hM 0 0 (by decide) (by decide)), oR_no (tff (fun q => by omega)) (by decide), hP⟩⟩, hS.F ht⟩) hS.2.2 dX8_hire_59
      · refine zr_if_eq (pc := 40) (tgt := 56) hx hb dX8_hire_40 (by decide) (by decide) (fun _ => ?_) (fun z => absurd z (by decide))
        refine lv_sipush (pc := 56) (v := zI (-2001)) hx hb dX8_hire_56 zc_sipush_m2001 ?_
        exact W.iret (v := zI ((-2001))) hx hb hr (fun tz ht hW => ⟨⟨zI ((-2001)), zI ((-2001)), rfl, rfl, by dsimp only; rw [ht]; exact ⟨_, _, _, _, (mR_sc hM 0 0 (by decide) (by decide)), oR_no (tff (fun q => by omega)) (by decide), hP⟩⟩, hS.F ht⟩) hS.2.2 dX8_hire_59
    · refine zr_if_eq (pc := 28) (tgt := 56) hx hb dX8_hire_28 (by decide) (by decide) (fun _ => ?_) (fun z => absurd z (by decide))
      refine lv_sipush (pc := 56) (v := zI (-2001)) hx hb dX8_hire_56 zc_sipush_m2001 ?_
      exact W.iret (v := zI ((-2001))) hx hb hr (fun tz ht hW => ⟨⟨zI ((-2001)), zI ((-2001)), rfl, rfl, by dsimp only; rw [ht]; exact ⟨_, _, _, _, (mR_sc hM 0 0 (by decide) (by decide)), oR_no (tff (fun q => by omega)) (by decide), hP⟩⟩, hS.F ht⟩) hS.2.2 dX8_hire_59
  · refine zr_if_eq (pc := 10) (tgt := 56) hx hb dX8_hire_10 (by decide) (by decide) (fun _ => ?_) (fun z => absurd z (by decide))
    refine lv_sipush (pc := 56) (v := zI (-2001)) hx hb dX8_hire_56 zc_sipush_m2001 ?_
    exact W.iret (v := zI ((-2001))) hx hb hr (fun tz ht hW => ⟨⟨zI ((-2001)), zI ((-2001)), rfl, rfl, by dsimp only; rw [ht]; exact ⟨_, _, _, _, (mR_sc hM 0 0 (by decide) (by decide)), oR_no (tff (fun q => by omega)) (by decide), hP⟩⟩, hS.F ht⟩) hS.2.2 dX8_hire_59
set_option maxHeartbeats 4000000 in
set_option maxRecDepth 100000 in
theorem ct_X8_endHire (l : Launch) (D : va_G) (cI cT : ClassId) (sz : Nat) (am : Nat → Nat) (μ : Nat → Int → Int) (g : Int → Int) (n : Nat) (hs : Nat → Int → Int) (tl : Int) (tx : Int → Int) (hM : mR μ g n hs tl tx) (hI : Inv g) (hJ : zJ am 5) (h : Int) (r_h : -2147483648 ≤ h ∧ h ≤ 2147483647) : zMi l yX8_endHire wsX8_endHire ({ frames := 1, cells := 0, slots := 0, locals := 25 }) D cI cT [.ref (am 0), .int (zI (h))] sz (fun _ H => zW D am 5 (mC cI am μ) H) (fun rr H => ∃ (μ' : Nat → Int → Int) (g' : Int → Int) (n' : Nat) (hs' : Nat → Int → Int), mR μ' g' n' hs' tl tx ∧ oR (eEnd g h) (bkF g h) (zu (zu (zu g (452 + 5 * h + 2) (g 3 - gH g h 1 + 1)) (452 + 5 * h + 3) (gH g h 3 - bkF g h)) 5 (g 5 - bkF g h)) g n hs g' n' hs' rr ∧ zW D am 5 (mC cI am μ') H) (zR am 5 sz) := by
  refine Met.ofW (cc := cX8_endHire) (maxL := 5) (ret := (some .int)) (by decide) rfl ?_
  intro p_ e_ s m_ args below meth c_ s₁ B hml hv
  obtain ⟨rfl, hsz, hK, hF⟩ := hv
  have hx := B.exec
  have hb := B.bytes
  have hr := B.returns
  have hts := atoms_spec (ws := wsX8_endHire) B.pre
  have hown : s.vm.findClass RX8 = some m_.cls := findClass_of_methodNamed B.named
  have hlocks := B.notSynchronized
  have S : CallFix p_ m_ c_ cX8_endHire 5 s _ wsX8_endHire RX8 := ⟨hx, hb, hml, hown, hts⟩
  have i_X8 : ∀ w ∈ u_ws RX8 TX8 12, w ∈ wsX8_endHire := fun _ h => List.mem_cons_of_mem _ (List.mem_append_right _ h)
  subst hsz
  generalize hAe : (zR am 5 s.heap.size) = A
  have hAn : ∀ q : Nat, s.heap.size ≤ q → A q := fun q h => by rw [← hAe]; exact Or.inr h
  obtain ⟨H, hHe⟩ : ∃ H : Heap, H = s.heap := ⟨_, rfl⟩
  rw [← hHe] at hF ⊢
  have hS : va_S A s.heap H [] := by rw [hHe]; exact va_S.rf
  have hP := hF
  have hg := hM.1
  have hAin : ∀ k : Nat, k < 5 → A (am k) := fun k hk => by rw [← hAe]; exact Or.inl ⟨k, hk, rfl⟩
  have hnH := iv_nH hI
  have hto := iv_to hI
  have hl := lv_entry ([.ref (am 0), .int (zI (h))]) (n := 5) (Nat.le_of_ble_eq_true rfl)
  rw [lg_entry_eq]
  generalize (lg_sl ([.ref (am 0), .int (zI (h))]) ++ List.replicate (5 - (lg_sl ([.ref (am 0), .int (zI (h))])).length) Slot.unset).toArray = ls at hl ⊢
  have hl : lv_has ls 5 [(0, .ref (am 0)), (1, .int (zI (h)))] := hl
  refine lv_aload_n (pc := 0) hx hb dX8_endHire_0 rfl (lv_at hl 0 rfl) ?_
  refine lv_iconst (pc := 1) (v := zI 0) hx hb dX8_endHire_1 rfl ?_
  refine zr_put (pc := 2) S hK (hP 0 (by decide)) rfl i_X8 tyX8 tyX8_ok nmX8 0 (by decide) (List.mem_of_getElem? (i := 1) rfl) rfl rfl rfl (Nat.le_of_ble_eq_true rfl) hS (hAin 0 (by decide)) dX8_endHire_2 (fun H locs hO hz hk hS => ?_)
  have hP := zW.put hP hJ 0 (by decide) hO hk (mC_0_0 0)
  refine lv_iload_n (pc := 5) hx hb dX8_endHire_5 rfl (lv_at hl 1 rfl) ?_
  refine zr_i2l (pc := 6) hx hb dX8_endHire_6 (by omega) ?_
  refine lv_lconst (pc := 7) (v := zL 0) hx hb dX8_endHire_7 rfl ?_
  refine lv_aload_n (pc := 8) hx hb dX8_endHire_8 rfl (lv_at hl 0 rfl) ?_
  refine zr_get (pc := 9) S hK (hP 0 (by decide)) rfl i_X8 1 (by decide) (List.mem_of_getElem? (i := 2) rfl) rfl dX8_endHire_9 ?_
  refine lv_iconst (pc := 12) (v := zI 2) hx hb dX8_endHire_12 rfl ?_
  refine zr_ald (pc := 13) (n := 572) hx hb (zAr_of (zK_int hK) (hP 1 (by decide))) (by decide) (by decide) (by decide) dX8_endHire_13 ?_
  refine zr_top (b := g 2) (congrFun ((su_ne (by decide) _ _).trans hg) _) ?_
  refine lv_iconst (pc := 14) (v := zI 1) hx hb dX8_endHire_14 rfl ?_
  refine zr_isub (pc := 15) (d := (g 2) - 1) hx hb dX8_endHire_15 rfl ?_
  refine zr_i2l (pc := 16) hx hb dX8_endHire_16 (by omega) ?_
  refine zr_si (pc := 17) (As := [.long (zL (h)), .long (zL (0)), .long (zL ((g 2) - 1))]) (rest := []) S (ct_X8_in l D cI cT h 0 ((g 2) - 1) (by omega) (by decide) (by omega)) (va_cwS 3 hts gX8_endHire_X8_in rfl rfl rfl (by decide +kernel) ⟨Nat.le_of_ble_eq_true rfl, Nat.le_of_ble_eq_true rfl⟩) zs0 hK trivial rfl hl.1 rfl (Nat.le_of_ble_eq_true rfl) dX8_endHire_17 ⟨Nat.le_of_ble_eq_true rfl, Nat.le_of_ble_eq_true rfl⟩ (fun r_17 hr_17 => ?_)
  rcases hr_17 with ⟨hb_17, rfl⟩ | ⟨hb_17, rfl⟩
  · refine zr_if_ne (pc := 20) (tgt := 27) hx hb dX8_endHire_20 (by decide) (by decide) (fun _ => ?_) (fun z => absurd z (by decide))
    have hh := iv_hi hI (h := h) (by omega) (by omega)
    refine lv_aload_n (pc := 27) hx hb dX8_endHire_27 rfl (lv_at hl 0 rfl) ?_
    refine zr_get (pc := 28) S hK (hP 0 (by decide)) rfl i_X8 1 (by decide) (List.mem_of_getElem? (i := 2) rfl) rfl dX8_endHire_28 ?_
    refine lv_iconst (pc := 31) (v := zI 3) hx hb dX8_endHire_31 rfl ?_
    refine zr_ald (pc := 32) (n := 572) hx hb (zAr_of (zK_int hK) (hP 1 (by decide))) (by decide) (by decide) (by decide) dX8_endHire_32 ?_
    refine zr_top (b := g 3) (congrFun ((su_ne (by decide) _ _).trans hg) _) ?_
    refine lv_aload_n (pc := 33) hx hb dX8_endHire_33 rfl (lv_at hl 0 rfl) ?_
    refine lv_iload_n (pc := 34) hx hb dX8_endHire_34 rfl (lv_at hl 1 rfl) ?_
    refine lv_iconst (pc := 35) (v := zI 1) hx hb dX8_endHire_35 rfl ?_
    refine zr_vi (pc := 36) (As := [.int (zI (h)), .int (zI (1))]) (rest := [.int (zI (g 3))]) S (ct_X8_ofHire l D cI cT am ((su μ 0 0 0)) g (((su_ne (by decide) _ _).trans hg)) hI h 1 (by omega) (by omega) (by omega) (by omega)) (cwV 2 hts gX8_endHire_X8_ofHire rfl rfl rfl (by decide +kernel) ⟨Nat.le_of_ble_eq_true rfl, Nat.le_of_ble_eq_true rfl⟩) zs0 hK hP (zr_recv hK (hP 0 (by decide)) rfl) rfl hl.1 rfl (Nat.le_of_ble_eq_true rfl) dX8_endHire_36 ⟨Nat.le_of_ble_eq_true rfl, Nat.le_of_ble_eq_true rfl⟩ (fun r_36 hr_36 => ?_)
    subst hr_36
    refine zr_isub (pc := 39) (d := (g 3) - (gH g h 1)) hx hb dX8_endHire_39 rfl ?_
    refine lv_iconst (pc := 40) (v := zI 1) hx hb dX8_endHire_40 rfl ?_
    refine zr_iadd (pc := 41) (d := ((g 3) - (gH g h 1)) + 1) hx hb dX8_endHire_41 rfl ?_
    refine lv_istore_n (pc := 42) (lv' := [(2, .int (zI (((g 3) - (gH g h 1)) + 1))), (0, .ref (am 0)), (1, .int (zI (h)))]) hx hb dX8_endHire_42 rfl hl (by decide) rfl (fun ls hl => ?_)
    refine lv_iload_n (pc := 43) hx hb dX8_endHire_43 rfl (lv_at hl 0 rfl) ?_
    refine zr_i2l (pc := 44) hx hb dX8_endHire_44 (by omega) ?_
    refine lv_lconst (pc := 45) (v := zL 1) hx hb dX8_endHire_45 rfl ?_
    refine lv_aload_n (pc := 46) hx hb dX8_endHire_46 rfl (lv_at hl 1 rfl) ?_
    refine lv_iload_n (pc := 47) hx hb dX8_endHire_47 rfl (lv_at hl 2 rfl) ?_
    refine lv_iconst (pc := 48) (v := zI 2) hx hb dX8_endHire_48 rfl ?_
    refine zr_vi (pc := 49) (As := [.int (zI (h)), .int (zI (2))]) (rest := [.long (zL (1)), .long (zL (((g 3) - (gH g h 1)) + 1))]) S (ct_X8_ofHire l D cI cT am ((su μ 0 0 0)) g (((su_ne (by decide) _ _).trans hg)) hI h 2 (by omega) (by omega) (by omega) (by omega)) (cwV 2 hts gX8_endHire_X8_ofHire rfl rfl rfl (by decide +kernel) ⟨Nat.le_of_ble_eq_true rfl, Nat.le_of_ble_eq_true rfl⟩) zs0 hK hP (zr_recv hK (hP 0 (by decide)) rfl) rfl hl.1 rfl (Nat.le_of_ble_eq_true rfl) dX8_endHire_49 ⟨Nat.le_of_ble_eq_true rfl, Nat.le_of_ble_eq_true rfl⟩ (fun r_49 hr_49 => ?_)
    subst hr_49
    refine lv_iconst (pc := 52) (v := zI 1) hx hb dX8_endHire_52 rfl ?_
    refine zr_isub (pc := 53) (d := (gH g h 2) - 1) hx hb dX8_endHire_53 rfl ?_
    refine zr_i2l (pc := 54) hx hb dX8_endHire_54 (by omega) ?_
    refine zr_si (pc := 55) (As := [.long (zL (((g 3) - (gH g h 1)) + 1)), .long (zL (1)), .long (zL ((gH g h 2) - 1))]) (rest := []) S (ct_X8_in l D cI cT (((g 3) - (gH g h 1)) + 1) 1 ((gH g h 2) - 1) (by omega) (by decide) (by omega)) (va_cwS 3 hts gX8_endHire_X8_in rfl rfl rfl (by decide +kernel) ⟨Nat.le_of_ble_eq_true rfl, Nat.le_of_ble_eq_true rfl⟩) zs0 hK trivial rfl hl.1 rfl (Nat.le_of_ble_eq_true rfl) dX8_endHire_55 ⟨Nat.le_of_ble_eq_true rfl, Nat.le_of_ble_eq_true rfl⟩ (fun r_55 hr_55 => ?_)
    rcases hr_55 with ⟨hb_55, rfl⟩ | ⟨hb_55, rfl⟩
    · refine zr_if_ne (pc := 58) (tgt := 65) hx hb dX8_endHire_58 (by decide) (by decide) (fun _ => ?_) (fun z => absurd z (by decide))
      have hfb := feeF_bd (n := g 3 - gH g h 1 + 1) (r := gH g h 4) (by omega) (by omega) (by omega) (by omega)
      refine lv_aload_n (pc := 65) hx hb dX8_endHire_65 rfl (lv_at hl 1 rfl) ?_
      refine zr_vwv (pc := 66) (As := []) (rest := []) S (ct_X8_act l D cI cT H.size am ((su μ 0 0 0)) g n hs tl tx (mR_sc hM 0 0 (by decide) (by decide)) hI hJ) (cwV 0 hts gX8_endHire_X8_act rfl rfl rfl (by decide +kernel) ⟨Nat.le_of_ble_eq_true rfl, Nat.le_of_ble_eq_true rfl⟩) zs0 hK hP (zr_recv hK (hP 0 (by decide)) rfl) hS (fun q h => h.elim (fun ⟨k, k0, e⟩ => by rw [e]; exact hAin k k0) (fun z => hAn q (Nat.le_trans hS.1 z))) rfl hl.1 rfl (Nat.le_of_ble_eq_true rfl) dX8_endHire_66 ⟨Nat.le_of_ble_eq_true rfl, Nat.le_of_ble_eq_true rfl⟩ (fun H locs hG hz hk hS => ?_)
      obtain ⟨μ14, ha14, hM14, hP⟩ := hG
      refine lv_sipush (pc := 69) (v := zI 452) hx hb dX8_endHire_69 zc_sipush_452 ?_
      refine lv_iconst (pc := 72) (v := zI 5) hx hb dX8_endHire_72 rfl ?_
      refine lv_iload_n (pc := 73) hx hb dX8_endHire_73 rfl (lv_at hl 2 rfl) ?_
      refine zr_imul (pc := 74) (d := 5 * h) hx hb dX8_endHire_74 rfl ?_
      refine zr_iadd (pc := 75) (d := 452 + (5 * h)) hx hb dX8_endHire_75 rfl ?_
      refine lv_istore_n (pc := 76) (lv' := [(3, .int (zI (452 + (5 * h)))), (2, .int (zI (((g 3) - (gH g h 1)) + 1))), (0, .ref (am 0)), (1, .int (zI (h)))]) hx hb dX8_endHire_76 rfl hl (by decide) rfl (fun ls hl => ?_)
      refine lv_aload_n (pc := 77) hx hb dX8_endHire_77 rfl (lv_at hl 2 rfl) ?_
      refine zr_get (pc := 78) S hK (hP 0 (by decide)) rfl i_X8 1 (by decide) (List.mem_of_getElem? (i := 2) rfl) rfl dX8_endHire_78 ?_
      refine lv_iload_n (pc := 81) hx hb dX8_endHire_81 rfl (lv_at hl 0 rfl) ?_
      refine lv_iconst (pc := 82) (v := zI 3) hx hb dX8_endHire_82 rfl ?_
      refine zr_iadd (pc := 83) (d := (452 + (5 * h)) + 3) hx hb dX8_endHire_83 rfl ?_
      refine zr_ald (pc := 84) (n := 572) hx hb (zAr_of (zK_int hK) (hP 1 (by decide))) (by omega) (by omega) (by decide) dX8_endHire_84 ?_
      refine zr_top (b := gH g h 3) ((congrFun hM14.1 _).trans rfl) ?_
      refine lv_iload_n (pc := 85) hx hb dX8_endHire_85 rfl (lv_at hl 1 rfl) ?_
      refine lv_aload_n (pc := 86) hx hb dX8_endHire_86 rfl (lv_at hl 2 rfl) ?_
      refine zr_get (pc := 87) S hK (hP 0 (by decide)) rfl i_X8 1 (by decide) (List.mem_of_getElem? (i := 2) rfl) rfl dX8_endHire_87 ?_
      refine lv_iload_n (pc := 90) hx hb dX8_endHire_90 rfl (lv_at hl 0 rfl) ?_
      refine lv_iconst (pc := 91) (v := zI 4) hx hb dX8_endHire_91 rfl ?_
      refine zr_iadd (pc := 92) (d := (452 + (5 * h)) + 4) hx hb dX8_endHire_92 rfl ?_
      refine zr_ald (pc := 93) (n := 572) hx hb (zAr_of (zK_int hK) (hP 1 (by decide))) (by omega) (by omega) (by decide) dX8_endHire_93 ?_
      refine zr_top (b := gH g h 4) ((congrFun hM14.1 _).trans rfl) ?_
      refine zr_si (pc := 94) (As := [.int (zI (((g 3) - (gH g h 1)) + 1)), .int (zI (gH g h 4))]) (rest := [.int (zI (gH g h 3))]) S (ct_X8_feeOf l D cI cT (((g 3) - (gH g h 1)) + 1) (gH g h 4) (by omega) (by omega) (by omega) (by omega)) (va_cwS 2 hts gX8_endHire_X8_feeOf rfl rfl rfl (by decide +kernel) ⟨Nat.le_of_ble_eq_true rfl, Nat.le_of_ble_eq_true rfl⟩) zs0 hK trivial rfl hl.1 rfl (Nat.le_of_ble_eq_true rfl) dX8_endHire_94 ⟨Nat.le_of_ble_eq_true rfl, Nat.le_of_ble_eq_true rfl⟩ (fun r_94 hr_94 => ?_)
      subst hr_94
      refine zr_isub (pc := 97) (d := (gH g h 3) - (feeF (((g 3) - (gH g h 1)) + 1) (gH g h 4))) hx hb dX8_endHire_97 rfl ?_
      refine lv_iconst (pc := 98) (v := zI 2) hx hb dX8_endHire_98 rfl ?_
      refine zr_idiv (pc := 99) (d := bkF g h) hx hb dX8_endHire_99 (zi_tdiv (a := gH g h 3 - feeF (g 3 - gH g h 1 + 1) (gH g h 4)) (by omega) (by decide)) ?_
      refine lv_istore (pc := 100) (lv' := [(4, .int (zI (bkF g h))), (3, .int (zI (452 + (5 * h)))), (2, .int (zI (((g 3) - (gH g h 1)) + 1))), (0, .ref (am 0)), (1, .int (zI (h)))]) hx hb dX8_endHire_100 hl (by decide) rfl (fun ls hl => ?_)
      refine lv_aload_n (pc := 102) hx hb dX8_endHire_102 rfl (lv_at hl 3 rfl) ?_
      refine zr_get (pc := 103) S hK (hP 0 (by decide)) rfl i_X8 1 (by decide) (List.mem_of_getElem? (i := 2) rfl) rfl dX8_endHire_103 ?_
      refine lv_iload_n (pc := 106) hx hb dX8_endHire_106 rfl (lv_at hl 1 rfl) ?_
      refine lv_iconst (pc := 107) (v := zI 2) hx hb dX8_endHire_107 rfl ?_
      refine zr_iadd (pc := 108) (d := (452 + (5 * h)) + 2) hx hb dX8_endHire_108 rfl ?_
      refine lv_iload_n (pc := 109) hx hb dX8_endHire_109 rfl (lv_at hl 2 rfl) ?_
      refine zr_ast (pc := 110) (k := 572) hx hb hK (hP 1 (by decide)) (by omega) (by omega) (by decide) hS (hAin 1 (by decide)) dX8_endHire_110 (fun H locs hO hz hk hS => ?_)
      have hP := zW.put hP hJ 1 (by decide) hO hk (mC_a 1 (by decide) _ _)
      refine lv_aload_n (pc := 111) hx hb dX8_endHire_111 rfl (lv_at hl 3 rfl) ?_
      refine zr_get (pc := 112) S hK (hP 0 (by decide)) rfl i_X8 1 (by decide) (List.mem_of_getElem? (i := 2) rfl) rfl dX8_endHire_112 ?_
      refine lv_iload_n (pc := 115) hx hb dX8_endHire_115 rfl (lv_at hl 1 rfl) ?_
      refine lv_iconst (pc := 116) (v := zI 3) hx hb dX8_endHire_116 rfl ?_
      refine zr_iadd (pc := 117) (d := (452 + (5 * h)) + 3) hx hb dX8_endHire_117 rfl ?_
      refine lv_dup2_11 (pc := 118) hx hb dX8_endHire_118 rfl rfl ?_
      refine zr_ald (pc := 119) (n := 572) hx hb (zAr_of (zK_int hK) (hP 1 (by decide))) (by omega) (by omega) (by decide) dX8_endHire_119 ?_
      refine zr_top (b := gH g h 3) ((congrFun ((su_eq _ _ _ _).trans (congrArg (fun fz => zu fz ((452 + (5 * h)) + 2) (((g 3) - (gH g h 1)) + 1)) hM14.1)) _).trans (if_neg (by omega))) ?_
      refine lv_iload (pc := 120) hx hb dX8_endHire_120 (lv_at hl 0 rfl) ?_
      refine zr_isub (pc := 122) (d := (gH g h 3) - (bkF g h)) hx hb dX8_endHire_122 rfl ?_
      refine zr_ast (pc := 123) (k := 572) hx hb hK (hP 1 (by decide)) (by omega) (by omega) (by decide) hS (hAin 1 (by decide)) dX8_endHire_123 (fun H locs hO hz hk hS => ?_)
      have hP := zW.put hP hJ 1 (by decide) hO hk (mC_a 1 (by decide) _ _)
      refine lv_aload_n (pc := 124) hx hb dX8_endHire_124 rfl (lv_at hl 3 rfl) ?_
      refine zr_get (pc := 125) S hK (hP 0 (by decide)) rfl i_X8 1 (by decide) (List.mem_of_getElem? (i := 2) rfl) rfl dX8_endHire_125 ?_
      refine lv_iconst (pc := 128) (v := zI 5) hx hb dX8_endHire_128 rfl ?_
      refine lv_dup2_11 (pc := 129) hx hb dX8_endHire_129 rfl rfl ?_
      refine zr_ald (pc := 130) (n := 572) hx hb (zAr_of (zK_int hK) (hP 1 (by decide))) (by decide) (by decide) (by decide) dX8_endHire_130 ?_
      refine zr_top (b := g 5) ((congrFun ((su_eq _ _ _ _).trans (congrArg (fun fz => zu fz ((452 + (5 * h)) + 3) ((gH g h 3) - (bkF g h))) ((su_eq _ _ _ _).trans (congrArg (fun fz => zu fz ((452 + (5 * h)) + 2) (((g 3) - (gH g h 1)) + 1)) hM14.1)))) _).trans (by simp only [zu]; rw [if_neg (by omega), if_neg (by omega)])) ?_
      refine lv_iload (pc := 131) hx hb dX8_endHire_131 (lv_at hl 0 rfl) ?_
      refine zr_isub (pc := 133) (d := (g 5) - (bkF g h)) hx hb dX8_endHire_133 rfl ?_
      refine zr_ast (pc := 134) (k := 572) hx hb hK (hP 1 (by decide)) (by decide) (by decide) (by decide) hS (hAin 1 (by decide)) dX8_endHire_134 (fun H locs hO hz hk hS => ?_)
      have hP := zW.put hP hJ 1 (by decide) hO hk (mC_a 1 (by decide) _ _)
      refine lv_iload (pc := 135) hx hb dX8_endHire_135 (lv_at hl 0 rfl) ?_
      exact W.iret (v := zI (bkF g h)) hx hb hr (fun tz ht hW => ⟨⟨zI (bkF g h), zI (bkF g h), rfl, rfl, by dsimp only; rw [ht]; exact ⟨_, _, _, _, (mR_put (mR_put (mR_put hM14 ((452 + (5 * h)) + 2) (((g 3) - (gH g h 1)) + 1)) ((452 + (5 * h)) + 3) ((gH g h 3) - (bkF g h))) 5 ((g 5) - (bkF g h))), oR_ok ((tft (by omega)).trans (tft (by omega))) (rfl) (rfl), hP⟩⟩, hS.F ht⟩) hS.2.2 dX8_endHire_137
    · refine zr_if_ne (pc := 58) (tgt := 65) hx hb dX8_endHire_58 (by decide) (by decide) (fun z => absurd z (by decide)) (fun _ => ?_)
      refine lv_sipush (pc := 61) (v := zI (-2002)) hx hb dX8_endHire_61 zc_sipush_m2002 ?_
      exact W.iret (v := zI ((-2002))) hx hb hr (fun tz ht hW => ⟨⟨zI ((-2002)), zI ((-2002)), rfl, rfl, by dsimp only; rw [ht]; exact ⟨_, _, _, _, (mR_sc hM 0 0 (by decide) (by decide)), oR_no ((tft (by omega)).trans (tff (fun q => by omega))) (by decide), hP⟩⟩, hS.F ht⟩) hS.2.2 dX8_endHire_64
  · refine zr_if_ne (pc := 20) (tgt := 27) hx hb dX8_endHire_20 (by decide) (by decide) (fun z => absurd z (by decide)) (fun _ => ?_)
    refine lv_sipush (pc := 23) (v := zI (-2001)) hx hb dX8_endHire_23 zc_sipush_m2001 ?_
    exact W.iret (v := zI ((-2001))) hx hb hr (fun tz ht hW => ⟨⟨zI ((-2001)), zI ((-2001)), rfl, rfl, by dsimp only; rw [ht]; exact ⟨_, _, _, _, (mR_sc hM 0 0 (by decide) (by decide)), oR_no (tff (fun q => by omega)) (by decide), hP⟩⟩, hS.F ht⟩) hS.2.2 dX8_endHire_26
set_option maxHeartbeats 4000000 in
set_option maxRecDepth 100000 in
theorem ct_X8_undo (l : Launch) (D : va_G) (cI cT : ClassId) (sz : Nat) (am : Nat → Nat) (μ : Nat → Int → Int) (g : Int → Int) (n : Nat) (hs : Nat → Int → Int) (tl : Int) (tx : Int → Int) (hM : mR μ g n hs tl tx) (hI : Inv g) (hJ : zJ am 5) : zMi l yX8_undo wsX8_undo ({ frames := 0, cells := 0, slots := 0, locals := 0 }) D cI cT [.ref (am 0)] sz (fun _ H => zW D am 5 (mC cI am μ) H) (fun rr H => ∃ (μ' : Nat → Int → Int) (g' : Int → Int) (n' : Nat) (hs' : Nat → Int → Int), mR μ' g' n' hs' tl tx ∧ oU g n hs g' n' hs' rr ∧ zW D am 5 (mC cI am μ') H) (zR am 5 sz) := by
  refine Met.ofW (cc := cX8_undo) (maxL := 2) (ret := (some .int)) (by decide) rfl ?_
  intro p_ e_ s m_ args below meth c_ s₁ B hml hv
  obtain ⟨rfl, hsz, hK, hF⟩ := hv
  have hx := B.exec
  have hb := B.bytes
  have hr := B.returns
  have hts := atoms_spec (ws := wsX8_undo) B.pre
  have hown : s.vm.findClass RX8 = some m_.cls := findClass_of_methodNamed B.named
  have hlocks := B.notSynchronized
  have S : CallFix p_ m_ c_ cX8_undo 2 s _ wsX8_undo RX8 := ⟨hx, hb, hml, hown, hts⟩
  have i_X8 : ∀ w ∈ u_ws RX8 TX8 12, w ∈ wsX8_undo := fun _ h => List.mem_cons_of_mem _ (List.mem_append_right _ h)
  subst hsz
  generalize hAe : (zR am 5 s.heap.size) = A
  have hAn : ∀ q : Nat, s.heap.size ≤ q → A q := fun q h => by rw [← hAe]; exact Or.inr h
  obtain ⟨H, hHe⟩ : ∃ H : Heap, H = s.heap := ⟨_, rfl⟩
  rw [← hHe] at hF ⊢
  have hS : va_S A s.heap H [] := by rw [hHe]; exact va_S.rf
  have hP := hF
  have hg := hM.1
  have hAin : ∀ k : Nat, k < 5 → A (am k) := fun k hk => by rw [← hAe]; exact Or.inl ⟨k, hk, rfl⟩
  have hn1 : μ 0 1 = (n : Int) := hM.2.1.2.1
  have hn5 := hM.2.1.1
  have hl := lv_entry ([.ref (am 0)]) (n := 2) (Nat.le_of_ble_eq_true rfl)
  rw [lg_entry_eq]
  generalize (lg_sl ([.ref (am 0)]) ++ List.replicate (2 - (lg_sl ([.ref (am 0)])).length) Slot.unset).toArray = ls at hl ⊢
  have hl : lv_has ls 2 [(0, .ref (am 0))] := hl
  refine lv_aload_n (pc := 0) hx hb dX8_undo_0 rfl (lv_at hl 0 rfl) ?_
  refine lv_iconst (pc := 1) (v := zI 0) hx hb dX8_undo_1 rfl ?_
  refine zr_put (pc := 2) S hK (hP 0 (by decide)) rfl i_X8 tyX8 tyX8_ok nmX8 0 (by decide) (List.mem_of_getElem? (i := 1) rfl) rfl rfl rfl (Nat.le_of_ble_eq_true rfl) hS (hAin 0 (by decide)) dX8_undo_2 (fun H locs hO hz hk hS => ?_)
  have hP := zW.put hP hJ 0 (by decide) hO hk (mC_0_0 0)
  refine lv_aload_n (pc := 5) hx hb dX8_undo_5 rfl (lv_at hl 0 rfl) ?_
  refine zr_get (pc := 6) S hK (hP 0 (by decide)) rfl i_X8 4 (by decide) (List.mem_of_getElem? (i := 2) rfl) rfl dX8_undo_6 ?_
  refine zr_top (b := μ 0 1) (by rw [su_s, if_neg (by decide)]) ?_
  refine zr_if_ne (pc := 9) (tgt := 16) hx hb dX8_undo_9 (by decide) (by omega) (fun c_9 => ?_) (fun c_9 => ?_)
  · have hK3 : ∀ x : Int, 0 ≤ x → x < 572 → μ 3 (572 * (μ 0 1 - 1) + x) = hs (n - 1) x := fun x x0 x1 => by rw [← hM.2.1.2.2 (n - 1) (by omega) x x0 x1]; congr 1; omega
    refine lv_aload_n (pc := 16) hx hb dX8_undo_16 rfl (lv_at hl 0 rfl) ?_
    refine lv_dup (pc := 17) hx hb dX8_undo_17 rfl ?_
    refine zr_get (pc := 18) S hK (hP 0 (by decide)) rfl i_X8 4 (by decide) (List.mem_of_getElem? (i := 2) rfl) rfl dX8_undo_18 ?_
    refine zr_top (b := μ 0 1) (by rw [su_s, if_neg (by decide)]) ?_
    refine lv_iconst (pc := 21) (v := zI 1) hx hb dX8_undo_21 rfl ?_
    refine zr_isub (pc := 22) (d := (μ 0 1) - 1) hx hb dX8_undo_22 rfl ?_
    refine zr_put (pc := 23) S hK (hP 0 (by decide)) rfl i_X8 tyX8 tyX8_ok nmX8 4 (by decide) (List.mem_of_getElem? (i := 2) rfl) rfl rfl rfl (Nat.le_of_ble_eq_true rfl) hS (hAin 0 (by decide)) dX8_undo_23 (fun H locs hO hz hk hS => ?_)
    have hP := zW.put hP hJ 0 (by decide) hO hk (mC_0_1 ((μ 0 1) - 1))
    refine lv_iconst (pc := 26) (v := zI 0) hx hb dX8_undo_26 rfl ?_
    refine lv_istore_n (pc := 27) (lv' := [(1, .int (zI (0))), (0, .ref (am 0))]) hx hb dX8_undo_27 rfl hl (by decide) rfl (fun ls hl => ?_)
    refine zr_hloop1 (fun (i : Nat) (H : Heap) => ((i : Int) ≤ 572) ∧ (zW D am 5 (mC cI am (va_up (su (su μ 0 0 0) 0 1 ((μ 0 1) - 1)) 1 (cpy g (hs (n - 1)) 0 i))) H)) (fun (i : Nat) => 572 - i) (fun (i : Nat) => [(0, .ref (am 0)), (1, .int (zI ((i : Int))))]) ?_ (0) (⟨by omega, by rw [cpy_0, show g = (su (su μ 0 0 0) 0 1 ((μ 0 1) - 1)) 1 from Eq.symm (((su_ne (by decide) _ _).trans ((su_ne (by decide) _ _).trans hg))), va_up_id]; exact hP⟩) hS (lv_sub hl [1, 0] rfl)
    intro i H locs hinv hS ih_28 ls hl
    obtain ⟨h_i, hP⟩ := hinv
    refine lv_iload_n (pc := 28) hx hb dX8_undo_28 rfl (lv_at hl 1 rfl) ?_
    refine lv_sipush (pc := 29) (v := zI 572) hx hb dX8_undo_29 zc_sipush_572 ?_
    refine zr_icmp_ge (pc := 32) (tgt := 62) hx hb dX8_undo_32 (by decide) (by omega) (by decide) (fun c_32 => ?_) (fun c_32 => ?_)
    · have e62 : i = 572 := by omega
      subst e62
      refine lv_aload_n (pc := 62) hx hb dX8_undo_62 rfl (lv_at hl 0 rfl) ?_
      refine zr_get (pc := 63) S hK (hP 0 (by decide)) rfl i_X8 4 (by decide) (List.mem_of_getElem? (i := 2) rfl) rfl dX8_undo_63 ?_
      refine zr_top (b := (μ 0 1) - 1) (by rw [va_up_ne _ _ (by decide), su_s, if_pos rfl]) ?_
      exact W.iret (v := zI ((μ 0 1) - 1)) hx hb hr (fun tz ht hW => ⟨⟨zI ((μ 0 1) - 1), zI ((μ 0 1) - 1), rfl, rfl, by dsimp only; rw [ht]; exact ⟨_, _, _, _, mR_un (mR_sc hM 0 0 (by decide) (by decide)) (by omega) (by omega) rfl, Or.inr ⟨by omega, congrArg zI (by omega), rfl, rfl, rfl⟩, hP⟩⟩, hS.F ht⟩) hS.2.2 dX8_undo_66
    · refine lv_aload_n (pc := 35) hx hb dX8_undo_35 rfl (lv_at hl 0 rfl) ?_
      refine zr_get (pc := 36) S hK (hP 0 (by decide)) rfl i_X8 1 (by decide) (List.mem_of_getElem? (i := 3) rfl) rfl dX8_undo_36 ?_
      refine lv_iload_n (pc := 39) hx hb dX8_undo_39 rfl (lv_at hl 1 rfl) ?_
      refine lv_aload_n (pc := 40) hx hb dX8_undo_40 rfl (lv_at hl 0 rfl) ?_
      refine zr_get (pc := 41) S hK (hP 0 (by decide)) rfl i_X8 3 (by decide) (List.mem_of_getElem? (i := 4) rfl) rfl dX8_undo_41 ?_
      refine lv_sipush (pc := 44) (v := zI 572) hx hb dX8_undo_44 zc_sipush_572 ?_
      refine lv_aload_n (pc := 47) hx hb dX8_undo_47 rfl (lv_at hl 0 rfl) ?_
      refine zr_get (pc := 48) S hK (hP 0 (by decide)) rfl i_X8 4 (by decide) (List.mem_of_getElem? (i := 2) rfl) rfl dX8_undo_48 ?_
      refine zr_top (b := (μ 0 1) - 1) (by rw [va_up_ne _ _ (by decide), su_s, if_pos rfl]) ?_
      refine zr_imul (pc := 51) (d := 572 * ((μ 0 1) - 1)) hx hb dX8_undo_51 rfl ?_
      refine lv_iload_n (pc := 52) hx hb dX8_undo_52 rfl (lv_at hl 1 rfl) ?_
      refine zr_iadd (pc := 53) (d := (572 * ((μ 0 1) - 1)) + ((i : Int))) hx hb dX8_undo_53 rfl ?_
      refine zr_ald (pc := 54) (n := 2860) hx hb (zAr_of (zK_int hK) (hP 3 (by decide))) (by omega) (by omega) (by decide) dX8_undo_54 ?_
      refine zr_ast (pc := 55) (k := 572) hx hb hK (hP 1 (by decide)) (by omega) (by omega) (by decide) hS (hAin 1 (by decide)) dX8_undo_55 (fun H locs hO hz hk hS => ?_)
      have hP := zW.put hP hJ 1 (by decide) hO hk (mC_a 1 (by decide) _ _)
      refine zr_iinc (pc := 56) (d := ((i : Int)) + 1) (lv' := [(1, .int (zI (((i : Int)) + 1))), (0, .ref (am 0))]) hx hb dX8_undo_56 hl (k := 1) rfl rfl (by decide) rfl (fun ls hl => ?_)
      refine lv_goto (pc := 59) (tgt := 28) hx hb dX8_undo_59 (by decide) ?_
      exact ih_28 (i + 1) H locs (⟨by omega, by have h := hP; rw [su_va, un_s (g := μ 3) (K := 572 * (μ 0 1 - 1)) rfl (by rw [va_up_ne _ _ (by decide), su_ne (by decide), su_ne (by decide)]) hK3 (by omega)] at h; exact h⟩) hS (by omega) ls (lv_sub hl [1, 0] rfl)
  · refine lv_sipush (pc := 12) (v := zI (-2002)) hx hb dX8_undo_12 zc_sipush_m2002 ?_
    exact W.iret (v := zI ((-2002))) hx hb hr (fun tz ht hW => ⟨⟨zI ((-2002)), zI ((-2002)), rfl, rfl, by dsimp only; rw [ht]; exact ⟨_, _, _, _, (mR_sc hM 0 0 (by decide) (by decide)), Or.inl ⟨by omega, rfl, rfl, rfl, rfl⟩, hP⟩⟩, hS.F ht⟩) hS.2.2 dX8_undo_15
set_option maxHeartbeats 4000000 in
set_option maxRecDepth 100000 in
theorem ct_X8_append (l : Launch) (D : va_G) (cI cT : ClassId) (sz : Nat) (am : Nat → Nat) (μ : Nat → Int → Int) (g : Int → Int) (n : Nat) (hs : Nat → Int → Int) (tl : Int) (tx : Int → Int) (hM : mR μ g n hs tl tx) (hI : Inv g) (hJ : zJ am 5) (t0 : 0 ≤ tl) (t1 : tl ≤ 120) (c : Int) (r_c : -2147483648 ≤ c ∧ c ≤ 2147483647) : zMi l yX8_append wsX8_append ({ frames := 1, cells := 0, slots := 0, locals := 25 }) D cI cT [.ref (am 0), .int (zI (c))] sz (fun _ H => zW D am 5 (mC cI am μ) H) (fun rr H => ∃ (μ' : Nat → Int → Int) (tl' : Int) (tx' : Int → Int), mR μ' g n hs tl' tx' ∧ oT tl tx c tl' tx' rr ∧ zW D am 5 (mC cI am μ') H) (zR am 5 sz) := by
  refine Met.ofW (cc := cX8_append) (maxL := 2) (ret := (some .int)) (by decide) rfl ?_
  intro p_ e_ s m_ args below meth c_ s₁ B hml hv
  obtain ⟨rfl, hsz, hK, hF⟩ := hv
  have hx := B.exec
  have hb := B.bytes
  have hr := B.returns
  have hts := atoms_spec (ws := wsX8_append) B.pre
  have hown : s.vm.findClass RX8 = some m_.cls := findClass_of_methodNamed B.named
  have hlocks := B.notSynchronized
  have S : CallFix p_ m_ c_ cX8_append 2 s _ wsX8_append RX8 := ⟨hx, hb, hml, hown, hts⟩
  have i_X8 : ∀ w ∈ u_ws RX8 TX8 12, w ∈ wsX8_append := fun _ h => List.mem_cons_of_mem _ (List.mem_append_right _ h)
  subst hsz
  generalize hAe : (zR am 5 s.heap.size) = A
  have hAn : ∀ q : Nat, s.heap.size ≤ q → A q := fun q h => by rw [← hAe]; exact Or.inr h
  obtain ⟨H, hHe⟩ : ∃ H : Heap, H = s.heap := ⟨_, rfl⟩
  rw [← hHe] at hF ⊢
  have hS : va_S A s.heap H [] := by rw [hHe]; exact va_S.rf
  have hP := hF
  have hg := hM.1
  have hAin : ∀ k : Nat, k < 5 → A (am k) := fun k hk => by rw [← hAe]; exact Or.inl ⟨k, hk, rfl⟩
  have htl : μ 0 2 = tl := hM.2.2.1
  have hl := lv_entry ([.ref (am 0), .int (zI (c))]) (n := 2) (Nat.le_of_ble_eq_true rfl)
  rw [lg_entry_eq]
  generalize (lg_sl ([.ref (am 0), .int (zI (c))]) ++ List.replicate (2 - (lg_sl ([.ref (am 0), .int (zI (c))])).length) Slot.unset).toArray = ls at hl ⊢
  have hl : lv_has ls 2 [(0, .ref (am 0)), (1, .int (zI (c)))] := hl
  refine lv_aload_n (pc := 0) hx hb dX8_append_0 rfl (lv_at hl 0 rfl) ?_
  refine lv_iconst (pc := 1) (v := zI 0) hx hb dX8_append_1 rfl ?_
  refine zr_put (pc := 2) S hK (hP 0 (by decide)) rfl i_X8 tyX8 tyX8_ok nmX8 0 (by decide) (List.mem_of_getElem? (i := 1) rfl) rfl rfl rfl (Nat.le_of_ble_eq_true rfl) hS (hAin 0 (by decide)) dX8_append_2 (fun H locs hO hz hk hS => ?_)
  have hP := zW.put hP hJ 0 (by decide) hO hk (mC_0_0 0)
  refine lv_iload_n (pc := 5) hx hb dX8_append_5 rfl (lv_at hl 1 rfl) ?_
  refine zr_i2l (pc := 6) hx hb dX8_append_6 (by omega) ?_
  refine lv_lconst (pc := 7) (v := zL 1) hx hb dX8_append_7 rfl ?_
  refine zr_ldc2 (pc := 8) (w := 255) hx hb hown (hts _ (List.mem_of_getElem? (i := 2) rfl)) dX8_append_8 (by decide +kernel) ?_
  refine zr_si (pc := 11) (As := [.long (zL (c)), .long (zL (1)), .long (zL (255))]) (rest := []) S (ct_X8_in l D cI cT c 1 255 (by omega) (by decide) (by decide)) (va_cwS 3 hts gX8_append_X8_in rfl rfl rfl (by decide +kernel) ⟨Nat.le_of_ble_eq_true rfl, Nat.le_of_ble_eq_true rfl⟩) zs0 hK trivial rfl hl.1 rfl (Nat.le_of_ble_eq_true rfl) dX8_append_11 ⟨Nat.le_of_ble_eq_true rfl, Nat.le_of_ble_eq_true rfl⟩ (fun r_11 hr_11 => ?_)
  rcases hr_11 with ⟨hb_11, rfl⟩ | ⟨hb_11, rfl⟩
  · refine zr_if_ne (pc := 14) (tgt := 21) hx hb dX8_append_14 (by decide) (by decide) (fun _ => ?_) (fun z => absurd z (by decide))
    refine lv_aload_n (pc := 21) hx hb dX8_append_21 rfl (lv_at hl 0 rfl) ?_
    refine zr_get (pc := 22) S hK (hP 0 (by decide)) rfl i_X8 6 (by decide) (List.mem_of_getElem? (i := 3) rfl) rfl dX8_append_22 ?_
    refine zr_top (b := μ 0 2) (by rw [su_s, if_neg (by decide)]) ?_
    refine lv_bipush (pc := 25) (v := zI 120) hx hb dX8_append_25 zc_bipush_120 ?_
    refine zr_icmp_ne (pc := 27) (tgt := 34) hx hb dX8_append_27 (by decide) (by omega) (by decide) (fun c_27 => ?_) (fun c_27 => ?_)
    · refine lv_aload_n (pc := 34) hx hb dX8_append_34 rfl (lv_at hl 0 rfl) ?_
      refine zr_get (pc := 35) S hK (hP 0 (by decide)) rfl i_X8 5 (by decide) (List.mem_of_getElem? (i := 4) rfl) rfl dX8_append_35 ?_
      refine lv_aload_n (pc := 38) hx hb dX8_append_38 rfl (lv_at hl 0 rfl) ?_
      refine zr_get (pc := 39) S hK (hP 0 (by decide)) rfl i_X8 6 (by decide) (List.mem_of_getElem? (i := 3) rfl) rfl dX8_append_39 ?_
      refine zr_top (b := μ 0 2) (by rw [su_s, if_neg (by decide)]) ?_
      refine lv_iload_n (pc := 42) hx hb dX8_append_42 rfl (lv_at hl 1 rfl) ?_
      refine zr_ast (pc := 43) (k := 120) hx hb hK (hP 4 (by decide)) (by omega) (by omega) (by decide) hS (hAin 4 (by decide)) dX8_append_43 (fun H locs hO hz hk hS => ?_)
      have hP := zW.put hP hJ 4 (by decide) hO hk (mC_a 4 (by decide) _ _)
      refine lv_aload_n (pc := 44) hx hb dX8_append_44 rfl (lv_at hl 0 rfl) ?_
      refine lv_dup (pc := 45) hx hb dX8_append_45 rfl ?_
      refine zr_get (pc := 46) S hK (hP 0 (by decide)) rfl i_X8 6 (by decide) (List.mem_of_getElem? (i := 3) rfl) rfl dX8_append_46 ?_
      refine zr_top (b := μ 0 2) (by rw [su_n (by decide), su_s, if_neg (by decide)]) ?_
      refine lv_iconst (pc := 49) (v := zI 1) hx hb dX8_append_49 rfl ?_
      refine zr_iadd (pc := 50) (d := (μ 0 2) + 1) hx hb dX8_append_50 rfl ?_
      refine zr_put (pc := 51) S hK (hP 0 (by decide)) rfl i_X8 tyX8 tyX8_ok nmX8 6 (by decide) (List.mem_of_getElem? (i := 3) rfl) rfl rfl rfl (Nat.le_of_ble_eq_true rfl) hS (hAin 0 (by decide)) dX8_append_51 (fun H locs hO hz hk hS => ?_)
      have hP := zW.put hP hJ 0 (by decide) hO hk (mC_0_2 ((μ 0 2) + 1))
      refine lv_aload_n (pc := 54) hx hb dX8_append_54 rfl (lv_at hl 0 rfl) ?_
      refine zr_get (pc := 55) S hK (hP 0 (by decide)) rfl i_X8 6 (by decide) (List.mem_of_getElem? (i := 3) rfl) rfl dX8_append_55 ?_
      refine zr_top (b := (μ 0 2) + 1) (by rw [su_s, if_pos rfl]) ?_
      exact W.iret (v := zI ((μ 0 2) + 1)) hx hb hr (fun tz ht hW => ⟨⟨zI ((μ 0 2) + 1), zI ((μ 0 2) + 1), rfl, rfl, by dsimp only; rw [ht]; exact ⟨_, _, _, mR_ap (mR_sc hM 0 0 (by decide) (by decide)) (by omega) (by omega), oT_ok ((tft (by omega)).trans (tft (by omega))) (by omega), hP⟩⟩, hS.F ht⟩) hS.2.2 dX8_append_58
    · refine lv_sipush (pc := 30) (v := zI (-2003)) hx hb dX8_append_30 zc_sipush_m2003 ?_
      exact W.iret (v := zI ((-2003))) hx hb hr (fun tz ht hW => ⟨⟨zI ((-2003)), zI ((-2003)), rfl, rfl, by dsimp only; rw [ht]; exact ⟨_, _, _, (mR_sc hM 0 0 (by decide) (by decide)), oT_no ((tft (by omega)).trans (tff (by omega))) (by decide), hP⟩⟩, hS.F ht⟩) hS.2.2 dX8_append_33
  · refine zr_if_ne (pc := 14) (tgt := 21) hx hb dX8_append_14 (by decide) (by decide) (fun z => absurd z (by decide)) (fun _ => ?_)
    refine lv_sipush (pc := 17) (v := zI (-2001)) hx hb dX8_append_17 zc_sipush_m2001 ?_
    exact W.iret (v := zI ((-2001))) hx hb hr (fun tz ht hW => ⟨⟨zI ((-2001)), zI ((-2001)), rfl, rfl, by dsimp only; rw [ht]; exact ⟨_, _, _, (mR_sc hM 0 0 (by decide) (by decide)), oT_no (tff (fun q => by omega)) (by decide), hP⟩⟩, hS.F ht⟩) hS.2.2 dX8_append_20
set_option maxHeartbeats 4000000 in
set_option maxRecDepth 100000 in
theorem ct_X8_clearText (l : Launch) (D : va_G) (cI cT : ClassId) (sz : Nat) (am : Nat → Nat) (μ : Nat → Int → Int) (g : Int → Int) (n : Nat) (hs : Nat → Int → Int) (tl : Int) (tx : Int → Int) (hM : mR μ g n hs tl tx) (hI : Inv g) (hJ : zJ am 5) (t0 : 0 ≤ tl) (t1 : tl ≤ 120)   : zMi l yX8_clearText wsX8_clearText ({ frames := 0, cells := 0, slots := 0, locals := 0 }) D cI cT [.ref (am 0)] sz (fun _ H => zW D am 5 (mC cI am μ) H) (fun rr H => ∃ (μ' : Nat → Int → Int) (tl' : Int) (tx' : Int → Int), mR μ' g n hs tl' tx' ∧ (rr = zI tl ∧ tl' = 0 ∧ tx' = tx) ∧ zW D am 5 (mC cI am μ') H) (zR am 5 sz) := by
  refine Met.ofW (cc := cX8_clearText) (maxL := 2) (ret := (some .int)) (by decide) rfl ?_
  intro p_ e_ s m_ args below meth c_ s₁ B hml hv
  obtain ⟨rfl, hsz, hK, hF⟩ := hv
  have hx := B.exec
  have hb := B.bytes
  have hr := B.returns
  have hts := atoms_spec (ws := wsX8_clearText) B.pre
  have hown : s.vm.findClass RX8 = some m_.cls := findClass_of_methodNamed B.named
  have hlocks := B.notSynchronized
  have S : CallFix p_ m_ c_ cX8_clearText 2 s _ wsX8_clearText RX8 := ⟨hx, hb, hml, hown, hts⟩
  have i_X8 : ∀ w ∈ u_ws RX8 TX8 12, w ∈ wsX8_clearText := fun _ h => List.mem_cons_of_mem _ (List.mem_append_right _ h)
  subst hsz
  generalize hAe : (zR am 5 s.heap.size) = A
  have hAn : ∀ q : Nat, s.heap.size ≤ q → A q := fun q h => by rw [← hAe]; exact Or.inr h
  obtain ⟨H, hHe⟩ : ∃ H : Heap, H = s.heap := ⟨_, rfl⟩
  rw [← hHe] at hF ⊢
  have hS : va_S A s.heap H [] := by rw [hHe]; exact va_S.rf
  have hP := hF
  have hg := hM.1
  have hAin : ∀ k : Nat, k < 5 → A (am k) := fun k hk => by rw [← hAe]; exact Or.inl ⟨k, hk, rfl⟩
  have htl : μ 0 2 = tl := hM.2.2.1
  have hl := lv_entry ([.ref (am 0)]) (n := 2) (Nat.le_of_ble_eq_true rfl)
  rw [lg_entry_eq]
  generalize (lg_sl ([.ref (am 0)]) ++ List.replicate (2 - (lg_sl ([.ref (am 0)])).length) Slot.unset).toArray = ls at hl ⊢
  have hl : lv_has ls 2 [(0, .ref (am 0))] := hl
  refine lv_aload_n (pc := 0) hx hb dX8_clearText_0 rfl (lv_at hl 0 rfl) ?_
  refine lv_iconst (pc := 1) (v := zI 0) hx hb dX8_clearText_1 rfl ?_
  refine zr_put (pc := 2) S hK (hP 0 (by decide)) rfl i_X8 tyX8 tyX8_ok nmX8 0 (by decide) (List.mem_of_getElem? (i := 1) rfl) rfl rfl rfl (Nat.le_of_ble_eq_true rfl) hS (hAin 0 (by decide)) dX8_clearText_2 (fun H locs hO hz hk hS => ?_)
  have hP := zW.put hP hJ 0 (by decide) hO hk (mC_0_0 0)
  refine lv_aload_n (pc := 5) hx hb dX8_clearText_5 rfl (lv_at hl 0 rfl) ?_
  refine zr_get (pc := 6) S hK (hP 0 (by decide)) rfl i_X8 6 (by decide) (List.mem_of_getElem? (i := 2) rfl) rfl dX8_clearText_6 ?_
  refine zr_top (b := μ 0 2) (by rw [su_s, if_neg (by decide)]) ?_
  refine lv_istore_n (pc := 9) (lv' := [(1, .int (zI (μ 0 2))), (0, .ref (am 0))]) hx hb dX8_clearText_9 rfl hl (by decide) rfl (fun ls hl => ?_)
  refine lv_aload_n (pc := 10) hx hb dX8_clearText_10 rfl (lv_at hl 1 rfl) ?_
  refine lv_iconst (pc := 11) (v := zI 0) hx hb dX8_clearText_11 rfl ?_
  refine zr_put (pc := 12) S hK (hP 0 (by decide)) rfl i_X8 tyX8 tyX8_ok nmX8 6 (by decide) (List.mem_of_getElem? (i := 2) rfl) rfl rfl rfl (Nat.le_of_ble_eq_true rfl) hS (hAin 0 (by decide)) dX8_clearText_12 (fun H locs hO hz hk hS => ?_)
  have hP := zW.put hP hJ 0 (by decide) hO hk (mC_0_2 0)
  refine lv_iload_n (pc := 15) hx hb dX8_clearText_15 rfl (lv_at hl 0 rfl) ?_
  exact W.iret (v := zI (μ 0 2)) hx hb hr (fun tz ht hW => ⟨⟨zI (μ 0 2), zI (μ 0 2), rfl, rfl, by dsimp only; rw [ht]; exact ⟨_, _, _, mR_cl (mR_sc hM 0 0 (by decide) (by decide)), ⟨congrArg zI htl, rfl, rfl⟩, hP⟩⟩, hS.F ht⟩) hS.2.2 dX8_clearText_16
