set_option maxHeartbeats 4000000 in
set_option maxRecDepth 100000 in
theorem ct_X8_act (l : Launch) (D : va_G) (cI cT : ClassId) (sz : Nat) (am : Nat → Nat) (μ : Nat → Int → Int) (g : Int → Int) (n : Nat) (hs : Nat → Int → Int) (tl : Int) (tx : Int → Int) (hM : mR μ g n hs tl tx) (hI : Inv g) (hJ : zJ am 5) : zMv l yX8_act wsX8_act ({ frames := 0, cells := 0, slots := 0, locals := 0 }) D cI cT [.ref (am 0)] sz (fun _ H => zW D am 5 (mC cI am μ) H) (fun H => ∃ μ' : Nat → Int → Int, μ' 2 = μ 2 ∧ mR μ' g (hpN n) (hpS n hs g) tl tx ∧ zW D am 5 (mC cI am μ') H) (zR am 5 sz) := by
  refine Met.ofW (cc := cX8_act) (maxL := 2) (ret := none) (by decide) rfl ?_
  intro p_ e_ s m_ args below meth c_ s₁ B hml hv
  obtain ⟨rfl, hsz, hK, hF⟩ := hv
  have hx := B.exec
  have hb := B.bytes
  have hr := B.returns
  have hts := atoms_spec (ws := wsX8_act) B.pre
  have hown : s.vm.findClass RX8 = some m_.cls := findClass_of_methodNamed B.named
  have hlocks := B.notSynchronized
  have S : CallFix p_ m_ c_ cX8_act 2 s _ wsX8_act RX8 := ⟨hx, hb, hml, hown, hts⟩
  have i_X8 : ∀ w ∈ u_ws RX8 TX8 12, w ∈ wsX8_act := fun _ h => List.mem_cons_of_mem _ (List.mem_append_right _ h)
  subst hsz
  generalize hAe : (zR am 5 s.heap.size) = A
  have hAn : ∀ q : Nat, s.heap.size ≤ q → A q := fun q h => by rw [← hAe]; exact Or.inr h
  obtain ⟨H, hHe⟩ : ∃ H : Heap, H = s.heap := ⟨_, rfl⟩
  rw [← hHe] at hF ⊢
  have hS : va_S A s.heap H [] := by rw [hHe]; exact va_S.rf
  have hP := hF
  have hg := hM.1
  have hAin : ∀ k : Nat, k < 5 → A (am k) := fun k hk => by rw [← hAe]; exact Or.inl ⟨k, hk, rfl⟩
  have hn1 : μ 0 1 = (n : Int) := hM.2.1.2.1
  have hn5 := hM.2.1.1
  have hl := lv_entry ([.ref (am 0)]) (n := 2) (Nat.le_of_ble_eq_true rfl)
  rw [lg_entry_eq]
  generalize (lg_sl ([.ref (am 0)]) ++ List.replicate (2 - (lg_sl ([.ref (am 0)])).length) Slot.unset).toArray = ls at hl ⊢
  have hl : lv_has ls 2 [(0, .ref (am 0))] := hl
  refine lv_aload_n (pc := 0) hx hb dX8_act_0 rfl (lv_at hl 0 rfl) ?_
  refine zr_get (pc := 1) S hK (hP 0 (by decide)) rfl i_X8 4 (by decide) (List.mem_of_getElem? (i := 1) rfl) rfl dX8_act_1 ?_
  refine lv_iconst (pc := 4) (v := zI 5) hx hb dX8_act_4 rfl ?_
  refine zr_icmp_ne (pc := 5) (tgt := 49) hx hb dX8_act_5 (by decide) (by omega) (by decide) (fun c_5 => ?_) (fun c_5 => ?_)
  · refine lv_iconst (pc := 49) (v := zI 0) hx hb dX8_act_49 rfl ?_
    refine lv_istore_n (pc := 50) (lv' := [(1, .int (zI (0))), (0, .ref (am 0))]) hx hb dX8_act_50 rfl hl (by decide) rfl (fun ls hl => ?_)
    refine zr_hloop1 (fun (i : Nat) (H : Heap) => ((i : Int) ≤ 572) ∧ (zW D am 5 (mC cI am (va_up μ 3 (cpy (μ 3) (μ 1) (572 * (μ 0 1)) i))) H)) (fun (i : Nat) => 572 - i) (fun (i : Nat) => [(0, .ref (am 0)), (1, .int (zI ((i : Int))))]) ?_ (0) (⟨by omega, by rw [cpy_0, va_up_id]; exact hP⟩) hS (lv_sub hl [1, 0] rfl)
    intro i H locs hinv hS ih_51 ls hl
    obtain ⟨h_i, hP⟩ := hinv
    refine lv_iload_n (pc := 51) hx hb dX8_act_51 rfl (lv_at hl 1 rfl) ?_
    refine lv_sipush (pc := 52) (v := zI 572) hx hb dX8_act_52 zc_sipush_572 ?_
    refine zr_icmp_ge (pc := 55) (tgt := 85) hx hb dX8_act_55 (by decide) (by omega) (by decide) (fun c_55 => ?_) (fun c_55 => ?_)
    · have e85 : i = 572 := by omega
      subst e85
      refine lv_aload_n (pc := 85) hx hb dX8_act_85 rfl (lv_at hl 0 rfl) ?_
      refine lv_dup (pc := 86) hx hb dX8_act_86 rfl ?_
      refine zr_get (pc := 87) S hK (hP 0 (by decide)) rfl i_X8 4 (by decide) (List.mem_of_getElem? (i := 1) rfl) rfl dX8_act_87 ?_
      refine zr_top (b := μ 0 1) (by rw [va_up_ne _ _ (by decide)]) ?_
      refine lv_iconst (pc := 90) (v := zI 1) hx hb dX8_act_90 rfl ?_
      refine zr_iadd (pc := 91) (d := (μ 0 1) + 1) hx hb dX8_act_91 rfl ?_
      refine zr_put (pc := 92) S hK (hP 0 (by decide)) rfl i_X8 tyX8 tyX8_ok nmX8 4 (by decide) (List.mem_of_getElem? (i := 1) rfl) rfl rfl rfl (Nat.le_of_ble_eq_true rfl) hS (hAin 0 (by decide)) dX8_act_92 (fun H locs hO hz hk hS => ?_)
      have hP := zW.put hP hJ 0 (by decide) hO hk (mC_0_1 ((μ 0 1) + 1))
      exact W.vret hx hb hr (fun tz ht hW => ⟨⟨(), rfl, trivial, by dsimp only; rw [ht]; exact ⟨_, (su_ne (by decide) _ _).trans (va_up_ne _ _ (by decide)), mR_act1 hM (by omega), hP⟩⟩, hS.F ht⟩) hS.2.2 dX8_act_95
    · refine lv_aload_n (pc := 58) hx hb dX8_act_58 rfl (lv_at hl 0 rfl) ?_
      refine zr_get (pc := 59) S hK (hP 0 (by decide)) rfl i_X8 3 (by decide) (List.mem_of_getElem? (i := 2) rfl) rfl dX8_act_59 ?_
      refine lv_sipush (pc := 62) (v := zI 572) hx hb dX8_act_62 zc_sipush_572 ?_
      refine lv_aload_n (pc := 65) hx hb dX8_act_65 rfl (lv_at hl 0 rfl) ?_
      refine zr_get (pc := 66) S hK (hP 0 (by decide)) rfl i_X8 4 (by decide) (List.mem_of_getElem? (i := 1) rfl) rfl dX8_act_66 ?_
      refine zr_top (b := μ 0 1) (by rw [va_up_ne _ _ (by decide)]) ?_
      refine zr_imul (pc := 69) (d := 572 * (μ 0 1)) hx hb dX8_act_69 rfl ?_
      refine lv_iload_n (pc := 70) hx hb dX8_act_70 rfl (lv_at hl 1 rfl) ?_
      refine zr_iadd (pc := 71) (d := (572 * (μ 0 1)) + ((i : Int))) hx hb dX8_act_71 rfl ?_
      refine lv_aload_n (pc := 72) hx hb dX8_act_72 rfl (lv_at hl 0 rfl) ?_
      refine zr_get (pc := 73) S hK (hP 0 (by decide)) rfl i_X8 1 (by decide) (List.mem_of_getElem? (i := 3) rfl) rfl dX8_act_73 ?_
      refine lv_iload_n (pc := 76) hx hb dX8_act_76 rfl (lv_at hl 1 rfl) ?_
      refine zr_ald (pc := 77) (n := 572) hx hb (zAr_of (zK_int hK) (hP 1 (by decide))) (by omega) (by omega) (by decide) dX8_act_77 ?_
      refine zr_ast (pc := 78) (k := 2860) hx hb hK (hP 3 (by decide)) (by omega) (by omega) (by decide) hS (hAin 3 (by decide)) dX8_act_78 (fun H locs hO hz hk hS => ?_)
      have hP := zW.put hP hJ 3 (by decide) hO hk (mC_a 3 (by decide) _ _)
      refine zr_iinc (pc := 79) (d := ((i : Int)) + 1) (lv' := [(1, .int (zI (((i : Int)) + 1))), (0, .ref (am 0))]) hx hb dX8_act_79 hl (k := 1) rfl rfl (by decide) rfl (fun ls hl => ?_)
      refine lv_goto (pc := 82) (tgt := 51) hx hb dX8_act_82 (by decide) ?_
      exact ih_51 (i + 1) H locs (⟨by omega, by have h := hP; rw [su_va, cpy_s _ _ _ _ (by rfl) (by rw [va_up_ne _ _ (by decide)])] at h; exact h⟩) hS (by omega) ls (lv_sub hl [1, 0] rfl)
  · refine lv_iconst (pc := 8) (v := zI 0) hx hb dX8_act_8 rfl ?_
    refine lv_istore_n (pc := 9) (lv' := [(1, .int (zI (0))), (0, .ref (am 0))]) hx hb dX8_act_9 rfl hl (by decide) rfl (fun ls hl => ?_)
    refine zr_hloop1 (fun (i : Nat) (H : Heap) => ((i : Int) ≤ 2288) ∧ (zW D am 5 (mC cI am (va_up μ 3 (shl (μ 3) i))) H)) (fun (i : Nat) => 2288 - i) (fun (i : Nat) => [(0, .ref (am 0)), (1, .int (zI ((i : Int))))]) ?_ (0) (⟨by omega, by rw [shl_0, va_up_id]; exact hP⟩) hS (lv_sub hl [1, 0] rfl)
    intro i H locs hinv hS ih_10 ls hl
    obtain ⟨h_i, hP⟩ := hinv
    refine lv_iload_n (pc := 10) hx hb dX8_act_10 rfl (lv_at hl 1 rfl) ?_
    refine lv_sipush (pc := 11) (v := zI 2288) hx hb dX8_act_11 zc_sipush_2288 ?_
    refine zr_icmp_ge (pc := 14) (tgt := 39) hx hb dX8_act_14 (by decide) (by omega) (by decide) (fun c_14 => ?_) (fun c_14 => ?_)
    · have e39 : i = 2288 := by omega
      subst e39
      refine lv_aload_n (pc := 39) hx hb dX8_act_39 rfl (lv_at hl 0 rfl) ?_
      refine lv_dup (pc := 40) hx hb dX8_act_40 rfl ?_
      refine zr_get (pc := 41) S hK (hP 0 (by decide)) rfl i_X8 4 (by decide) (List.mem_of_getElem? (i := 1) rfl) rfl dX8_act_41 ?_
      refine zr_top (b := μ 0 1) (by rw [va_up_ne _ _ (by decide)]) ?_
      refine lv_iconst (pc := 44) (v := zI 1) hx hb dX8_act_44 rfl ?_
      refine zr_isub (pc := 45) (d := (μ 0 1) - 1) hx hb dX8_act_45 rfl ?_
      refine zr_put (pc := 46) S hK (hP 0 (by decide)) rfl i_X8 tyX8 tyX8_ok nmX8 4 (by decide) (List.mem_of_getElem? (i := 1) rfl) rfl rfl rfl (Nat.le_of_ble_eq_true rfl) hS (hAin 0 (by decide)) dX8_act_46 (fun H locs hO hz hk hS => ?_)
      have hP := zW.put hP hJ 0 (by decide) hO hk (mC_0_1 ((μ 0 1) - 1))
      refine lv_iconst (pc := 49) (v := zI 0) hx hb dX8_act_49 rfl ?_
      refine lv_istore_n (pc := 50) (lv' := [(1, .int (zI (0))), (0, .ref (am 0))]) hx hb dX8_act_50 rfl hl (by decide) rfl (fun ls hl => ?_)
      refine zr_hloop1 (fun (i : Nat) (H : Heap) => ((i : Int) ≤ 572) ∧ (zW D am 5 (mC cI am (va_up (su (va_up μ 3 (shl (μ 3) 2288)) 0 1 ((μ 0 1) - 1)) 3 (cpy ((su (va_up μ 3 (shl (μ 3) 2288)) 0 1 ((μ 0 1) - 1)) 3) ((su (va_up μ 3 (shl (μ 3) 2288)) 0 1 ((μ 0 1) - 1)) 1) (572 * ((μ 0 1) - 1)) i))) H)) (fun (i : Nat) => 572 - i) (fun (i : Nat) => [(0, .ref (am 0)), (1, .int (zI ((i : Int))))]) ?_ (0) (⟨by omega, by rw [cpy_0, va_up_id]; exact hP⟩) hS (lv_sub hl [1, 0] rfl)
      intro i H locs hinv hS ih_51 ls hl
      obtain ⟨h_i, hP⟩ := hinv
      refine lv_iload_n (pc := 51) hx hb dX8_act_51 rfl (lv_at hl 1 rfl) ?_
      refine lv_sipush (pc := 52) (v := zI 572) hx hb dX8_act_52 zc_sipush_572 ?_
      refine zr_icmp_ge (pc := 55) (tgt := 85) hx hb dX8_act_55 (by decide) (by omega) (by decide) (fun c_55 => ?_) (fun c_55 => ?_)
      · have e85 : i = 572 := by omega
        subst e85
        refine lv_aload_n (pc := 85) hx hb dX8_act_85 rfl (lv_at hl 0 rfl) ?_
        refine lv_dup (pc := 86) hx hb dX8_act_86 rfl ?_
        refine zr_get (pc := 87) S hK (hP 0 (by decide)) rfl i_X8 4 (by decide) (List.mem_of_getElem? (i := 1) rfl) rfl dX8_act_87 ?_
        refine zr_top (b := (μ 0 1) - 1) (by rw [va_up_ne _ _ (by decide), su_s, if_pos rfl]) ?_
        refine lv_iconst (pc := 90) (v := zI 1) hx hb dX8_act_90 rfl ?_
        refine zr_iadd (pc := 91) (d := ((μ 0 1) - 1) + 1) hx hb dX8_act_91 rfl ?_
        refine zr_put (pc := 92) S hK (hP 0 (by decide)) rfl i_X8 tyX8 tyX8_ok nmX8 4 (by decide) (List.mem_of_getElem? (i := 1) rfl) rfl rfl rfl (Nat.le_of_ble_eq_true rfl) hS (hAin 0 (by decide)) dX8_act_92 (fun H locs hO hz hk hS => ?_)
        have hP := zW.put hP hJ 0 (by decide) hO hk (mC_0_1 (((μ 0 1) - 1) + 1))
        exact W.vret hx hb hr (fun tz ht hW => ⟨⟨(), rfl, trivial, by dsimp only; rw [ht]; exact ⟨_, ((su_ne (by decide) _ _).trans (va_up_ne _ _ (by decide))).trans ((su_ne (by decide) _ _).trans (va_up_ne _ _ (by decide))), mR_act2 hM (by omega) rfl, hP⟩⟩, hS.F ht⟩) hS.2.2 dX8_act_95
      · refine lv_aload_n (pc := 58) hx hb dX8_act_58 rfl (lv_at hl 0 rfl) ?_
        refine zr_get (pc := 59) S hK (hP 0 (by decide)) rfl i_X8 3 (by decide) (List.mem_of_getElem? (i := 2) rfl) rfl dX8_act_59 ?_
        refine lv_sipush (pc := 62) (v := zI 572) hx hb dX8_act_62 zc_sipush_572 ?_
        refine lv_aload_n (pc := 65) hx hb dX8_act_65 rfl (lv_at hl 0 rfl) ?_
        refine zr_get (pc := 66) S hK (hP 0 (by decide)) rfl i_X8 4 (by decide) (List.mem_of_getElem? (i := 1) rfl) rfl dX8_act_66 ?_
        refine zr_top (b := (μ 0 1) - 1) (by rw [va_up_ne _ _ (by decide), su_s, if_pos rfl]) ?_
        refine zr_imul (pc := 69) (d := 572 * ((μ 0 1) - 1)) hx hb dX8_act_69 rfl ?_
        refine lv_iload_n (pc := 70) hx hb dX8_act_70 rfl (lv_at hl 1 rfl) ?_
        refine zr_iadd (pc := 71) (d := (572 * ((μ 0 1) - 1)) + ((i : Int))) hx hb dX8_act_71 rfl ?_
        refine lv_aload_n (pc := 72) hx hb dX8_act_72 rfl (lv_at hl 0 rfl) ?_
        refine zr_get (pc := 73) S hK (hP 0 (by decide)) rfl i_X8 1 (by decide) (List.mem_of_getElem? (i := 3) rfl) rfl dX8_act_73 ?_
        refine lv_iload_n (pc := 76) hx hb dX8_act_76 rfl (lv_at hl 1 rfl) ?_
        refine zr_ald (pc := 77) (n := 572) hx hb (zAr_of (zK_int hK) (hP 1 (by decide))) (by omega) (by omega) (by decide) dX8_act_77 ?_
        refine zr_ast (pc := 78) (k := 2860) hx hb hK (hP 3 (by decide)) (by omega) (by omega) (by decide) hS (hAin 3 (by decide)) dX8_act_78 (fun H locs hO hz hk hS => ?_)
        have hP := zW.put hP hJ 3 (by decide) hO hk (mC_a 3 (by decide) _ _)
        refine zr_iinc (pc := 79) (d := ((i : Int)) + 1) (lv' := [(1, .int (zI (((i : Int)) + 1))), (0, .ref (am 0))]) hx hb dX8_act_79 hl (k := 1) rfl rfl (by decide) rfl (fun ls hl => ?_)
        refine lv_goto (pc := 82) (tgt := 51) hx hb dX8_act_82 (by decide) ?_
        exact ih_51 (i + 1) H locs (⟨by omega, by have h := hP; rw [su_va, cpy_s _ _ _ _ (by rfl) (by rw [va_up_ne _ _ (by decide)])] at h; exact h⟩) hS (by omega) ls (lv_sub hl [1, 0] rfl)
    · refine lv_aload_n (pc := 17) hx hb dX8_act_17 rfl (lv_at hl 0 rfl) ?_
      refine zr_get (pc := 18) S hK (hP 0 (by decide)) rfl i_X8 3 (by decide) (List.mem_of_getElem? (i := 2) rfl) rfl dX8_act_18 ?_
      refine lv_iload_n (pc := 21) hx hb dX8_act_21 rfl (lv_at hl 1 rfl) ?_
      refine lv_aload_n (pc := 22) hx hb dX8_act_22 rfl (lv_at hl 0 rfl) ?_
      refine zr_get (pc := 23) S hK (hP 0 (by decide)) rfl i_X8 3 (by decide) (List.mem_of_getElem? (i := 2) rfl) rfl dX8_act_23 ?_
      refine lv_iload_n (pc := 26) hx hb dX8_act_26 rfl (lv_at hl 1 rfl) ?_
      refine lv_sipush (pc := 27) (v := zI 572) hx hb dX8_act_27 zc_sipush_572 ?_
      refine zr_iadd (pc := 30) (d := ((i : Int)) + 572) hx hb dX8_act_30 rfl ?_
      refine zr_ald (pc := 31) (n := 2860) hx hb (zAr_of (zK_int hK) (hP 3 (by decide))) (by omega) (by omega) (by decide) dX8_act_31 ?_
      refine zr_ast (pc := 32) (k := 2860) hx hb hK (hP 3 (by decide)) (by omega) (by omega) (by decide) hS (hAin 3 (by decide)) dX8_act_32 (fun H locs hO hz hk hS => ?_)
      have hP := zW.put hP hJ 3 (by decide) hO hk (mC_a 3 (by decide) _ _)
      refine zr_iinc (pc := 33) (d := ((i : Int)) + 1) (lv' := [(1, .int (zI (((i : Int)) + 1))), (0, .ref (am 0))]) hx hb dX8_act_33 hl (k := 1) rfl rfl (by decide) rfl (fun ls hl => ?_)
      refine lv_goto (pc := 36) (tgt := 10) hx hb dX8_act_36 (by decide) ?_
      exact ih_10 (i + 1) H locs (⟨by omega, by have h := hP; rw [su_va, va_up_self, shl_s] at h; exact h⟩) hS (by omega) ls (lv_sub hl [1, 0] rfl)
