set_option maxHeartbeats 4000000 in
set_option maxRecDepth 100000 in
theorem ct_X8_load (l : Launch) (D : va_G) (cI cT : ClassId) (sz : Nat) (am : Nat → Nat) (μ : Nat → Int → Int) (g : Int → Int) (n : Nat) (hs : Nat → Int → Int) (tl : Int) (tx : Int → Int) (hM : mR μ g n hs tl tx) (hI : Inv g) (hJ : zJ am 5) (t0 : 0 ≤ tl) (t1 : tl ≤ 120) (htx : ∀ i : Int, 0 ≤ i → i < tl → 1 ≤ tx i ∧ tx i ≤ 255) : zMi l yX8_load wsX8_load ({ frames := 5, cells := 0, slots := 0, locals := 117 }) D cI cT [.ref (am 0)] sz (fun _ H => zW D am 5 (mC cI am μ) H) (fun rr H => ∃ (μ' : Nat → Int → Int) (g' : Int → Int) (n' : Nat) (hs' : Nat → Int → Int) (tl' : Int), mR μ' g' n' hs' tl' tx ∧ oD tx tl g n hs g' n' hs' tl' rr ∧ zW D am 5 (mC cI am μ') H) (zR am 5 sz) := by
  refine Met.ofW (cc := cX8_load) (maxL := 2) (ret := (some .int)) (by decide) rfl ?_
  intro p_ e_ s m_ args below meth c_ s₁ B hml hv
  obtain ⟨rfl, hsz, hK, hF⟩ := hv
  have hx := B.exec
  have hb := B.bytes
  have hr := B.returns
  have hts := atoms_spec (ws := wsX8_load) B.pre
  have hown : s.vm.findClass RX8 = some m_.cls := findClass_of_methodNamed B.named
  have hlocks := B.notSynchronized
  have S : CallFix p_ m_ c_ cX8_load 2 s _ wsX8_load RX8 := ⟨hx, hb, hml, hown, hts⟩
  have i_X8 : ∀ w ∈ u_ws RX8 TX8 12, w ∈ wsX8_load := fun _ h => List.mem_cons_of_mem _ (List.mem_append_right _ h)
  subst hsz
  generalize hAe : (zR am 5 s.heap.size) = A
  have hAn : ∀ q : Nat, s.heap.size ≤ q → A q := fun q h => by rw [← hAe]; exact Or.inr h
  obtain ⟨H, hHe⟩ : ∃ H : Heap, H = s.heap := ⟨_, rfl⟩
  rw [← hHe] at hF ⊢
  have hS : va_S A s.heap H [] := by rw [hHe]; exact va_S.rf
  have hP := hF
  have hg := hM.1
  have hAin : ∀ k : Nat, k < 5 → A (am k) := fun k hk => by rw [← hAe]; exact Or.inl ⟨k, hk, rfl⟩
  have hl := lv_entry ([.ref (am 0)]) (n := 2) (Nat.le_of_ble_eq_true rfl)
  rw [lg_entry_eq]
  generalize (lg_sl ([.ref (am 0)]) ++ List.replicate (2 - (lg_sl ([.ref (am 0)])).length) Slot.unset).toArray = ls at hl ⊢
  have hl : lv_has ls 2 [(0, .ref (am 0))] := hl
  refine lv_aload_n (pc := 0) hx hb dX8_load_0 rfl (lv_at hl 0 rfl) ?_
  refine lv_iconst (pc := 1) (v := zI 0) hx hb dX8_load_1 rfl ?_
  refine zr_put (pc := 2) S hK (hP 0 (by decide)) rfl i_X8 tyX8 tyX8_ok nmX8 0 (by decide) (List.mem_of_getElem? (i := 1) rfl) rfl rfl rfl (Nat.le_of_ble_eq_true rfl) hS (hAin 0 (by decide)) dX8_load_2 (fun H locs hO hz hk hS => ?_)
  have hP := zW.put hP hJ 0 (by decide) hO hk (mC_0_0 0)
  refine lv_iconst (pc := 5) (v := zI 0) hx hb dX8_load_5 rfl ?_
  refine lv_istore_n (pc := 6) (lv' := [(1, .int (zI (0))), (0, .ref (am 0))]) hx hb dX8_load_6 rfl hl (by decide) rfl (fun ls hl => ?_)
  refine zr_hloop1 (fun (i : Nat) (H : Heap) => ((i : Int) ≤ 572) ∧ (zW D am 5 (mC cI am (va_up (su μ 0 0 0) 2 (cpy ((su μ 0 0 0) 2) g 0 i))) H)) (fun (i : Nat) => 572 - i) (fun (i : Nat) => [(0, .ref (am 0)), (1, .int (zI ((i : Int))))]) ?_ (0) (⟨by omega, by rw [cpy_0, va_up_id]; exact hP⟩) hS (lv_sub hl [1, 0] rfl)
  intro i H locs hinv hS ih_7 ls hl
  obtain ⟨h_i, hP⟩ := hinv
  refine lv_iload_n (pc := 7) hx hb dX8_load_7 rfl (lv_at hl 1 rfl) ?_
  refine lv_sipush (pc := 8) (v := zI 572) hx hb dX8_load_8 zc_sipush_572 ?_
  refine zr_icmp_ge (pc := 11) (tgt := 32) hx hb dX8_load_11 (by decide) (by omega) (by decide) (fun c_11 => ?_) (fun c_11 => ?_)
  · have e32 : i = 572 := by omega
    subst e32
    refine lv_aload_n (pc := 32) hx hb dX8_load_32 rfl (lv_at hl 0 rfl) ?_
    refine lv_iconst (pc := 33) (v := zI 0) hx hb dX8_load_33 rfl ?_
    refine zr_put (pc := 34) S hK (hP 0 (by decide)) rfl i_X8 tyX8 tyX8_ok nmX8 7 (by decide) (List.mem_of_getElem? (i := 4) rfl) rfl rfl rfl (Nat.le_of_ble_eq_true rfl) hS (hAin 0 (by decide)) dX8_load_34 (fun H locs hO hz hk hS => ?_)
    have hP := zW.put hP hJ 0 (by decide) hO hk (mC_0_3 0)
    refine lv_aload_n (pc := 37) hx hb dX8_load_37 rfl (lv_at hl 0 rfl) ?_
    refine lv_iconst (pc := 38) (v := zI 0) hx hb dX8_load_38 rfl ?_
    refine zr_put (pc := 39) S hK (hP 0 (by decide)) rfl i_X8 tyX8 tyX8_ok nmX8 11 (by decide) (List.mem_of_getElem? (i := 5) rfl) rfl rfl rfl (Nat.le_of_ble_eq_true rfl) hS (hAin 0 (by decide)) dX8_load_39 (fun H locs hO hz hk hS => ?_)
    have hP := zW.put hP hJ 0 (by decide) hO hk (mC_0_7 0)
    refine lv_iconst (pc := 42) (v := zI 0) hx hb dX8_load_42 rfl ?_
    refine lv_istore_n (pc := 43) (lv' := [(1, .int (zI (0))), (0, .ref (am 0))]) hx hb dX8_load_43 rfl hl (by decide) rfl (fun ls hl => ?_)
    obtain ⟨μ2, hμ2⟩ : ∃ z : Nat → Int → Int, z = (su (su (va_up (su μ 0 0 0) 2 (cpy ((su μ 0 0 0) 2) g 0 572)) 0 3 0) 0 7 0) := ⟨_, rfl⟩
    have hM2 : mR μ2 g n hs tl tx := by rw [hμ2]; exact (mR_sc (mR_sc (mR_as (mR_sc hM 0 0 (by decide) (by decide)) _) 3 0 (by decide) (by decide)) 7 0 (by decide) (by decide))
    obtain ⟨A0, hA0⟩ : ∃ z : Int → Int, z = (su μ 0 0 0) 2 := ⟨_, rfl⟩
    have hA2 : μ2 2 = cpy A0 g 0 572 := by rw [hμ2, su_ne (by decide), su_ne (by decide), va_up_self, hA0]
    have h03 : μ2 0 3 = 0 := by rw [hμ2, su_s, if_neg (by decide), su_s, if_pos rfl]
    have h07 : μ2 0 7 = 0 := by rw [hμ2, su_s, if_pos rfl]
    rw [← hμ2, ← rX_id (μ := μ2), h03, h07] at hP
    refine lv_aload_n (pc := 44) hx hb dX8_load_44 rfl (lv_at hl 1 rfl) ?_
    refine zr_vwv (pc := 45) (As := []) (rest := []) S (ct_X8_read l D cI cT H.size am μ2 tl tx hM2.2.2.1 hM2.2.2.2 hJ t0 t1 htx 0 (μ2 0 4) (μ2 0 5) (μ2 0 6) 0 (by omega) (by omega)) (cwV 0 hts gX8_load_X8_read rfl rfl rfl (by decide +kernel) ⟨Nat.le_of_ble_eq_true rfl, Nat.le_of_ble_eq_true rfl⟩) zs0 hK hP (zr_recv hK (hP 0 (by decide)) rfl) hS (fun q h => h.elim (fun ⟨k, k0, e⟩ => by rw [e]; exact hAin k k0) (fun z => hAn q (Nat.le_trans hS.1 z))) rfl hl.1 rfl (Nat.le_of_ble_eq_true rfl) dX8_load_45 ⟨Nat.le_of_ble_eq_true rfl, Nat.le_of_ble_eq_true rfl⟩ (fun H locs hG hz hk hS => ?_)
    have hP := hG
    refine zr_hloop4 (fun (i : Nat) (q : Int) (w : Int) (G : Int → Int) (H : Heap) => ((i : Int) ≤ 25) ∧ (0 ≤ q ∧ q ≤ tl) ∧ ((w = 0 ∧ sqO tx tl g i ∧ q = sqP tx tl i ∧ G = sqG tx tl g i) ∨ (w = 1 ∧ ∃ k : Nat, sqO tx tl g k ∧ tK tx tl (sqP tx tl k) ≠ 0 ∧ itB tx tl (sqG tx tl g k) (sqP tx tl k) (tS tx tl q) ∧ G = sqG tx tl g k)) ∧ (zW D am 5 (mC cI am (rX ((va_up μ2 1 G)) (tE tx tl q) (tS tx tl q) (rK tx tl q) (rV tx tl q) w)) H)) (fun (i : Nat) (q : Int) (w : Int) (G : Int → Int) => 26 - i) (fun (i : Nat) (q : Int) (w : Int) (G : Int → Int) => [(0, .ref (am 0)), (1, .int (zI ((i : Int))))]) ?_ (0) (0) (0) (g) (⟨by omega, ⟨Int.le_refl _, t0⟩, Or.inl ⟨rfl, fun j hj => absurd hj (Nat.not_lt_zero _), rfl, rfl⟩, by rw [show va_up μ2 1 g = μ2 from (congrArg (va_up μ2 1) hM2.1.symm).trans (va_up_id μ2 1)]; exact hP⟩) hS (lv_sub hl [1, 0] rfl)
    intro i q w G H locs hinv hS ih_48 ls hl
    obtain ⟨hi, hq, hph, hP⟩ := hinv
    have hw01 : w = 0 ∨ w = 1 := hph.elim (fun z => Or.inl z.1) (fun z => Or.inr z.1)
    have hrk := rK_bd tx tl q
    refine lv_aload_n (pc := 48) hx hb dX8_load_48 rfl (lv_at hl 0 rfl) ?_
    refine zr_get (pc := 49) S hK (hP 0 (by decide)) rfl i_X8 11 (by decide) (List.mem_of_getElem? (i := 5) rfl) rfl dX8_load_49 ?_
    refine zr_top (b := w) rX_7 ?_
    refine zr_if_ne (pc := 52) (tgt := 73) hx hb dX8_load_52 (by decide) (by omega) (fun c_52 => ?_) (fun c_52 => ?_)
    · have hGo : ∀ x : Int, ¬ (0 ≤ x ∧ x < 572) → G x = g x := by rcases hph with ⟨_, a, _, b⟩ | ⟨_, k, a, _, _, b⟩ <;> rw [b] <;> exact (sq_inv hI a).2.2
      refine lv_aload_n (pc := 73) hx hb dX8_load_73 rfl (lv_at hl 0 rfl) ?_
      refine zr_vwv (pc := 74) (As := []) (rest := []) S (ct_X8_exchange l D cI cT H.size am ((rX ((va_up μ2 1 G)) (tE tx tl q) (tS tx tl q) (rK tx tl q) (rV tx tl q) w)) G (((rX_k (by decide)).trans (va_up_self ..))) hJ  ) (cwV 0 hts gX8_load_X8_exchange rfl rfl rfl (by decide +kernel) ⟨Nat.le_of_ble_eq_true rfl, Nat.le_of_ble_eq_true rfl⟩) zs0 hK hP (zr_recv hK (hP 0 (by decide)) rfl) hS (fun q h => h.elim (fun ⟨k, k0, e⟩ => by rw [e]; exact hAin k k0) (fun z => hAn q (Nat.le_trans hS.1 z))) rfl hl.1 rfl (Nat.le_of_ble_eq_true rfl) dX8_load_74 ⟨Nat.le_of_ble_eq_true rfl, Nat.le_of_ble_eq_true rfl⟩ (fun H locs hG hz hk hS => ?_)
      have hP := hG
      rw [ex_1 hA2 (ex_g hGo)] at hP
      obtain ⟨μ5, hμ5⟩ : ∃ z : Nat → Int → Int, z = rX (va_up (va_up μ2 1 g) 2 (cpy (cpy A0 g 0 572) G 0 572)) (tE tx tl q) (tS tx tl q) (rK tx tl q) (rV tx tl q) w := ⟨_, rfl⟩
      have hM5 : mR μ5 g n hs tl tx := by rw [hμ5]; exact mR_rX (mR_as (mR_g hM2 g) _) _ _ _ _ _
      have hA5 : μ5 2 = cpy (cpy A0 g 0 572) G 0 572 := by rw [hμ5]; exact (rX_k (by decide)).trans (va_up_self ..)
      have h57 : μ5 0 7 = w := by rw [hμ5]; exact rX_7
      have h54 : μ5 0 4 = tS tx tl q := by rw [hμ5]; exact rX_4
      rw [← hμ5] at hP
      have htsb := tE_bd (tx := tx) hq.1 hq.2
      refine lv_aload_n (pc := 77) hx hb dX8_load_77 rfl (lv_at hl 0 rfl) ?_
      refine zr_get (pc := 78) S hK (hP 0 (by decide)) rfl i_X8 11 (by decide) (List.mem_of_getElem? (i := 5) rfl) rfl dX8_load_78 ?_
      refine zr_top (b := w) (h57) ?_
      refine zr_if_eq (pc := 81) (tgt := 93) hx hb dX8_load_81 (by decide) (by omega) (fun c_81 => ?_) (fun c_81 => ?_)
      · refine lv_aload_n (pc := 93) hx hb dX8_load_93 rfl (lv_at hl 0 rfl) ?_
        refine zr_vwv (pc := 94) (As := []) (rest := []) S (ct_X8_act l D cI cT H.size am μ5 g n hs tl tx hM5 hI hJ) (cwV 0 hts gX8_load_X8_act rfl rfl rfl (by decide +kernel) ⟨Nat.le_of_ble_eq_true rfl, Nat.le_of_ble_eq_true rfl⟩) zs0 hK hP (zr_recv hK (hP 0 (by decide)) rfl) hS (fun q h => h.elim (fun ⟨k, k0, e⟩ => by rw [e]; exact hAin k k0) (fun z => hAn q (Nat.le_trans hS.1 z))) rfl hl.1 rfl (Nat.le_of_ble_eq_true rfl) dX8_load_94 ⟨Nat.le_of_ble_eq_true rfl, Nat.le_of_ble_eq_true rfl⟩ (fun H locs hG hz hk hS => ?_)
        obtain ⟨μ21, ha21, hM21, hP⟩ := hG
        refine lv_aload_n (pc := 97) hx hb dX8_load_97 rfl (lv_at hl 0 rfl) ?_
        refine zr_vwv (pc := 98) (As := []) (rest := []) S (ct_X8_exchange l D cI cT H.size am μ21 g hM21.1 hJ  ) (cwV 0 hts gX8_load_X8_exchange rfl rfl rfl (by decide +kernel) ⟨Nat.le_of_ble_eq_true rfl, Nat.le_of_ble_eq_true rfl⟩) zs0 hK hP (zr_recv hK (hP 0 (by decide)) rfl) hS (fun q h => h.elim (fun ⟨k, k0, e⟩ => by rw [e]; exact hAin k k0) (fun z => hAn q (Nat.le_trans hS.1 z))) rfl hl.1 rfl (Nat.le_of_ble_eq_true rfl) dX8_load_98 ⟨Nat.le_of_ble_eq_true rfl, Nat.le_of_ble_eq_true rfl⟩ (fun H locs hG hz hk hS => ?_)
        have hP := hG
        have e61 : μ21 1 = g := hM21.1
        have e62 : μ21 2 = cpy (cpy A0 g 0 572) G 0 572 := ha21.trans hA5
        rw [e61, e62, ex_G hGo] at hP
        obtain ⟨μ7, hμ7⟩ : ∃ z : Nat → Int → Int, z = va_up (va_up μ21 1 G) 2 (cpy (cpy (cpy A0 g 0 572) G 0 572) g 0 572) := ⟨_, rfl⟩
        have hM7 : mR μ7 G (hpN n) (hpS n hs g) tl tx := by rw [hμ7]; exact mR_as (mR_g hM21 G) _
        rw [← hμ7] at hP
        refine lv_aload_n (pc := 101) hx hb dX8_load_101 rfl (lv_at hl 0 rfl) ?_
        refine lv_iconst (pc := 102) (v := zI 0) hx hb dX8_load_102 rfl ?_
        refine zr_put (pc := 103) S hK (hP 0 (by decide)) rfl i_X8 tyX8 tyX8_ok nmX8 6 (by decide) (List.mem_of_getElem? (i := 8) rfl) rfl rfl rfl (Nat.le_of_ble_eq_true rfl) hS (hAin 0 (by decide)) dX8_load_103 (fun H locs hO hz hk hS => ?_)
        have hP := zW.put hP hJ 0 (by decide) hO hk (mC_0_2 0)
        refine lv_iload_n (pc := 106) hx hb dX8_load_106 rfl (lv_at hl 1 rfl) ?_
        exact W.iret (v := zI ((i : Int))) hx hb hr (fun tz ht hW => ⟨⟨zI ((i : Int)), zI ((i : Int)), rfl, rfl, by dsimp only; rw [ht]; exact ⟨_, G, hpN n, hpS n hs g, 0, mR_cl hM7, Or.inl ⟨i, ⟨by rcases hph with ⟨_, a, _, _⟩ | z <;> first | exact a | exact absurd z.1 (by omega), by rcases hph with ⟨_, _, b, _⟩ | z <;> first | (rw [← b]; exact rK_end.mp c_60) | exact absurd z.1 (by omega) | (exfalso; omega)⟩, rfl, (by rcases hph with ⟨_, _, _, b⟩ | z <;> first | exact b | exact absurd z.1 (by omega)), rfl, rfl, rfl⟩, hP⟩⟩, hS.F ht⟩) hS.2.2 dX8_load_107
      · refine lv_sipush (pc := 84) (v := zI (-10000)) hx hb dX8_load_84 zc_sipush_m10000 ?_
        refine lv_aload_n (pc := 87) hx hb dX8_load_87 rfl (lv_at hl 0 rfl) ?_
        refine zr_get (pc := 88) S hK (hP 0 (by decide)) rfl i_X8 8 (by decide) (List.mem_of_getElem? (i := 7) rfl) rfl dX8_load_88 ?_
        refine zr_top (b := tS tx tl q) (h54) ?_
        refine zr_isub (pc := 91) (d := ((-10000)) - (tS tx tl q)) hx hb dX8_load_91 rfl ?_
        exact W.iret (v := zI (((-10000)) - (tS tx tl q))) hx hb hr (fun tz ht hW => ⟨⟨zI (((-10000)) - (tS tx tl q)), zI (((-10000)) - (tS tx tl q)), rfl, rfl, by dsimp only; rw [ht]; exact ⟨_, g, n, hs, tl, hM5, Or.inr ⟨tS tx tl q, (by rcases hph with z | ⟨z, k, z1, z2, z3, z4⟩ <;> first | exact absurd z.1 (by omega) | exact ⟨k, z1, z2, z3⟩), rfl, rfl, rfl, rfl, rfl⟩, hP⟩⟩, hS.F ht⟩) hS.2.2 dX8_load_92
    · refine lv_aload_n (pc := 55) hx hb dX8_load_55 rfl (lv_at hl 0 rfl) ?_
      refine zr_get (pc := 56) S hK (hP 0 (by decide)) rfl i_X8 9 (by decide) (List.mem_of_getElem? (i := 6) rfl) rfl dX8_load_56 ?_
      refine zr_top (b := rK tx tl q) rX_5 ?_
      refine lv_iconst (pc := 59) (v := zI 4) hx hb dX8_load_59 rfl ?_
      refine zr_icmp_eq (pc := 60) (tgt := 73) hx hb dX8_load_60 (by decide) (by omega) (by decide) (fun c_60 => ?_) (fun c_60 => ?_)
      · have hGo : ∀ x : Int, ¬ (0 ≤ x ∧ x < 572) → G x = g x := by rcases hph with ⟨_, a, _, b⟩ | ⟨_, k, a, _, _, b⟩ <;> rw [b] <;> exact (sq_inv hI a).2.2
        refine lv_aload_n (pc := 73) hx hb dX8_load_73 rfl (lv_at hl 0 rfl) ?_
        refine zr_vwv (pc := 74) (As := []) (rest := []) S (ct_X8_exchange l D cI cT H.size am ((rX ((va_up μ2 1 G)) (tE tx tl q) (tS tx tl q) (rK tx tl q) (rV tx tl q) w)) G (((rX_k (by decide)).trans (va_up_self ..))) hJ  ) (cwV 0 hts gX8_load_X8_exchange rfl rfl rfl (by decide +kernel) ⟨Nat.le_of_ble_eq_true rfl, Nat.le_of_ble_eq_true rfl⟩) zs0 hK hP (zr_recv hK (hP 0 (by decide)) rfl) hS (fun q h => h.elim (fun ⟨k, k0, e⟩ => by rw [e]; exact hAin k k0) (fun z => hAn q (Nat.le_trans hS.1 z))) rfl hl.1 rfl (Nat.le_of_ble_eq_true rfl) dX8_load_74 ⟨Nat.le_of_ble_eq_true rfl, Nat.le_of_ble_eq_true rfl⟩ (fun H locs hG hz hk hS => ?_)
        have hP := hG
        rw [ex_1 hA2 (ex_g hGo)] at hP
        obtain ⟨μ5, hμ5⟩ : ∃ z : Nat → Int → Int, z = rX (va_up (va_up μ2 1 g) 2 (cpy (cpy A0 g 0 572) G 0 572)) (tE tx tl q) (tS tx tl q) (rK tx tl q) (rV tx tl q) w := ⟨_, rfl⟩
        have hM5 : mR μ5 g n hs tl tx := by rw [hμ5]; exact mR_rX (mR_as (mR_g hM2 g) _) _ _ _ _ _
        have hA5 : μ5 2 = cpy (cpy A0 g 0 572) G 0 572 := by rw [hμ5]; exact (rX_k (by decide)).trans (va_up_self ..)
        have h57 : μ5 0 7 = w := by rw [hμ5]; exact rX_7
        have h54 : μ5 0 4 = tS tx tl q := by rw [hμ5]; exact rX_4
        rw [← hμ5] at hP
        have htsb := tE_bd (tx := tx) hq.1 hq.2
        refine lv_aload_n (pc := 77) hx hb dX8_load_77 rfl (lv_at hl 0 rfl) ?_
        refine zr_get (pc := 78) S hK (hP 0 (by decide)) rfl i_X8 11 (by decide) (List.mem_of_getElem? (i := 5) rfl) rfl dX8_load_78 ?_
        refine zr_top (b := w) (h57) ?_
        refine zr_if_eq (pc := 81) (tgt := 93) hx hb dX8_load_81 (by decide) (by omega) (fun c_81 => ?_) (fun c_81 => ?_)
        · refine lv_aload_n (pc := 93) hx hb dX8_load_93 rfl (lv_at hl 0 rfl) ?_
          refine zr_vwv (pc := 94) (As := []) (rest := []) S (ct_X8_act l D cI cT H.size am μ5 g n hs tl tx hM5 hI hJ) (cwV 0 hts gX8_load_X8_act rfl rfl rfl (by decide +kernel) ⟨Nat.le_of_ble_eq_true rfl, Nat.le_of_ble_eq_true rfl⟩) zs0 hK hP (zr_recv hK (hP 0 (by decide)) rfl) hS (fun q h => h.elim (fun ⟨k, k0, e⟩ => by rw [e]; exact hAin k k0) (fun z => hAn q (Nat.le_trans hS.1 z))) rfl hl.1 rfl (Nat.le_of_ble_eq_true rfl) dX8_load_94 ⟨Nat.le_of_ble_eq_true rfl, Nat.le_of_ble_eq_true rfl⟩ (fun H locs hG hz hk hS => ?_)
          obtain ⟨μ22, ha22, hM22, hP⟩ := hG
          refine lv_aload_n (pc := 97) hx hb dX8_load_97 rfl (lv_at hl 0 rfl) ?_
          refine zr_vwv (pc := 98) (As := []) (rest := []) S (ct_X8_exchange l D cI cT H.size am μ22 g hM22.1 hJ  ) (cwV 0 hts gX8_load_X8_exchange rfl rfl rfl (by decide +kernel) ⟨Nat.le_of_ble_eq_true rfl, Nat.le_of_ble_eq_true rfl⟩) zs0 hK hP (zr_recv hK (hP 0 (by decide)) rfl) hS (fun q h => h.elim (fun ⟨k, k0, e⟩ => by rw [e]; exact hAin k k0) (fun z => hAn q (Nat.le_trans hS.1 z))) rfl hl.1 rfl (Nat.le_of_ble_eq_true rfl) dX8_load_98 ⟨Nat.le_of_ble_eq_true rfl, Nat.le_of_ble_eq_true rfl⟩ (fun H locs hG hz hk hS => ?_)
          have hP := hG
          have e61 : μ22 1 = g := hM22.1
          have e62 : μ22 2 = cpy (cpy A0 g 0 572) G 0 572 := ha22.trans hA5
          rw [e61, e62, ex_G hGo] at hP
          obtain ⟨μ7, hμ7⟩ : ∃ z : Nat → Int → Int, z = va_up (va_up μ22 1 G) 2 (cpy (cpy (cpy A0 g 0 572) G 0 572) g 0 572) := ⟨_, rfl⟩
          have hM7 : mR μ7 G (hpN n) (hpS n hs g) tl tx := by rw [hμ7]; exact mR_as (mR_g hM22 G) _
          rw [← hμ7] at hP
          refine lv_aload_n (pc := 101) hx hb dX8_load_101 rfl (lv_at hl 0 rfl) ?_
          refine lv_iconst (pc := 102) (v := zI 0) hx hb dX8_load_102 rfl ?_
          refine zr_put (pc := 103) S hK (hP 0 (by decide)) rfl i_X8 tyX8 tyX8_ok nmX8 6 (by decide) (List.mem_of_getElem? (i := 8) rfl) rfl rfl rfl (Nat.le_of_ble_eq_true rfl) hS (hAin 0 (by decide)) dX8_load_103 (fun H locs hO hz hk hS => ?_)
          have hP := zW.put hP hJ 0 (by decide) hO hk (mC_0_2 0)
          refine lv_iload_n (pc := 106) hx hb dX8_load_106 rfl (lv_at hl 1 rfl) ?_
          exact W.iret (v := zI ((i : Int))) hx hb hr (fun tz ht hW => ⟨⟨zI ((i : Int)), zI ((i : Int)), rfl, rfl, by dsimp only; rw [ht]; exact ⟨_, G, hpN n, hpS n hs g, 0, mR_cl hM7, Or.inl ⟨i, ⟨by rcases hph with ⟨_, a, _, _⟩ | z <;> first | exact a | exact absurd z.1 (by omega), by rcases hph with ⟨_, _, b, _⟩ | z <;> first | (rw [← b]; exact rK_end.mp c_60) | exact absurd z.1 (by omega) | (exfalso; omega)⟩, rfl, (by rcases hph with ⟨_, _, _, b⟩ | z <;> first | exact b | exact absurd z.1 (by omega)), rfl, rfl, rfl⟩, hP⟩⟩, hS.F ht⟩) hS.2.2 dX8_load_107
        · refine lv_sipush (pc := 84) (v := zI (-10000)) hx hb dX8_load_84 zc_sipush_m10000 ?_
          refine lv_aload_n (pc := 87) hx hb dX8_load_87 rfl (lv_at hl 0 rfl) ?_
          refine zr_get (pc := 88) S hK (hP 0 (by decide)) rfl i_X8 8 (by decide) (List.mem_of_getElem? (i := 7) rfl) rfl dX8_load_88 ?_
          refine zr_top (b := tS tx tl q) (h54) ?_
          refine zr_isub (pc := 91) (d := ((-10000)) - (tS tx tl q)) hx hb dX8_load_91 rfl ?_
          exact W.iret (v := zI (((-10000)) - (tS tx tl q))) hx hb hr (fun tz ht hW => ⟨⟨zI (((-10000)) - (tS tx tl q)), zI (((-10000)) - (tS tx tl q)), rfl, rfl, by dsimp only; rw [ht]; exact ⟨_, g, n, hs, tl, hM5, Or.inr ⟨tS tx tl q, (by rcases hph with z | ⟨z, k, z1, z2, z3, z4⟩ <;> first | exact absurd z.1 (by omega) | exact ⟨k, z1, z2, z3⟩), rfl, rfl, rfl, rfl, rfl⟩, hP⟩⟩, hS.F ht⟩) hS.2.2 dX8_load_92
      · have hw0 : w = 0 := by omega
        rw [hw0] at hP
        obtain ⟨_, hsq, hqs, hGs⟩ := hph.resolve_right (fun z => absurd z.1 (by omega))
        have hIG : Inv G := by rw [hGs]; exact (sq_inv hI hsq).1
        have hile := sq_le hI hsq
        refine lv_aload_n (pc := 63) hx hb dX8_load_63 rfl (lv_at hl 0 rfl) ?_
        refine zr_vwv (pc := 64) (As := []) (rest := []) S (ct_X8_readItem l D cI cT H.size am (va_up μ2 1 G) tl tx ((congrFun (va_up_ne _ _ (by decide)) 2).trans hM2.2.2.1) (fun i i0 i1 => (congrFun (va_up_ne _ _ (by decide)) i).trans (hM2.2.2.2 i i0 i1)) hJ t0 t1 htx G (va_up_self ..) hIG q hq.1 hq.2) (cwV 0 hts gX8_load_X8_readItem rfl rfl rfl (by decide +kernel) ⟨Nat.le_of_ble_eq_true rfl, Nat.le_of_ble_eq_true rfl⟩) zs0 hK hP (zr_recv hK (hP 0 (by decide)) rfl) hS (fun q h => h.elim (fun ⟨k, k0, e⟩ => by rw [e]; exact hAin k k0) (fun z => hAn q (Nat.le_trans hS.1 z))) rfl hl.1 rfl (Nat.le_of_ble_eq_true rfl) dX8_load_64 ⟨Nat.le_of_ble_eq_true rfl, Nat.le_of_ble_eq_true rfl⟩ (fun H locs hG hz hk hS => ?_)
        rcases hG with ⟨hITO, hP⟩ | ⟨q2, hq2, hB, hP⟩
        · rw [va_up_va] at hP
          refine zr_iinc (pc := 67) (d := ((i : Int)) + 1) (lv' := [(1, .int (zI (((i : Int)) + 1))), (0, .ref (am 0))]) hx hb dX8_load_67 hl (k := 1) rfl rfl (by decide) rfl (fun ls hl => ?_)
          refine lv_goto (pc := 70) (tgt := 48) hx hb dX8_load_70 (by decide) ?_
          exact ih_48 (i + 1) (itN tx tl q) (0) (itG tx tl G q) H locs (⟨by omega, by have z := itN_bd (tx := tx) hq.1 hq.2; omega, Or.inl ⟨rfl, sqO_s hsq (by rw [← hqs]; exact fun z => c_60 (rK_end.mpr z)) (by rw [← hqs, ← hGs]; exact hITO), by rw [hqs]; rfl, by rw [hqs, hGs]; rfl⟩, hP⟩) hS (by omega) ls (lv_sub hl [1, 0] rfl)
        · skip
          refine zr_iinc (pc := 67) (d := ((i : Int)) + 1) (lv' := [(1, .int (zI (((i : Int)) + 1))), (0, .ref (am 0))]) hx hb dX8_load_67 hl (k := 1) rfl rfl (by decide) rfl (fun ls hl => ?_)
          refine lv_goto (pc := 70) (tgt := 48) hx hb dX8_load_70 (by decide) ?_
          exact ih_48 (i + 1) (q2) (1) (G) H locs (⟨by omega, hq2, Or.inr ⟨rfl, i, hsq, by rw [← hqs]; exact fun z => c_60 (rK_end.mpr z), by rw [← hqs, ← hGs]; exact hB, hGs⟩, hP⟩) hS (by omega) ls (lv_sub hl [1, 0] rfl)
  · refine lv_aload_n (pc := 14) hx hb dX8_load_14 rfl (lv_at hl 0 rfl) ?_
    refine zr_get (pc := 15) S hK (hP 0 (by decide)) rfl i_X8 2 (by decide) (List.mem_of_getElem? (i := 2) rfl) rfl dX8_load_15 ?_
    refine lv_iload_n (pc := 18) hx hb dX8_load_18 rfl (lv_at hl 1 rfl) ?_
    refine lv_aload_n (pc := 19) hx hb dX8_load_19 rfl (lv_at hl 0 rfl) ?_
    refine zr_get (pc := 20) S hK (hP 0 (by decide)) rfl i_X8 1 (by decide) (List.mem_of_getElem? (i := 3) rfl) rfl dX8_load_20 ?_
    refine lv_iload_n (pc := 23) hx hb dX8_load_23 rfl (lv_at hl 1 rfl) ?_
    refine zr_ald (pc := 24) (n := 572) hx hb (zAr_of (zK_int hK) (hP 1 (by decide))) (by omega) (by omega) (by decide) dX8_load_24 ?_
    refine zr_top (b := g ((i : Int))) (congrFun ((va_up_ne _ _ (by decide)).trans ((su_ne (by decide) _ _).trans hg)) _) ?_
    refine zr_ast (pc := 25) (k := 572) hx hb hK (hP 2 (by decide)) (by omega) (by omega) (by decide) hS (hAin 2 (by decide)) dX8_load_25 (fun H locs hO hz hk hS => ?_)
    have hP := zW.put hP hJ 2 (by decide) hO hk (mC_a 2 (by decide) _ _)
    refine zr_iinc (pc := 26) (d := ((i : Int)) + 1) (lv' := [(1, .int (zI (((i : Int)) + 1))), (0, .ref (am 0))]) hx hb dX8_load_26 hl (k := 1) rfl rfl (by decide) rfl (fun ls hl => ?_)
    refine lv_goto (pc := 29) (tgt := 7) hx hb dX8_load_29 (by decide) ?_
    exact ih_7 (i + 1) H locs (⟨by omega, by have h := hP; rw [su_va, cpy_s _ _ _ _ (by omega) rfl] at h; exact h⟩) hS (by omega) ls (lv_sub hl [1, 0] rfl)
