set_option maxHeartbeats 4000000 in
set_option maxRecDepth 100000 in
theorem ct_X8_here (l : Launch) (D : va_G) (cI cT : ClassId) (am : Nat → Nat) (μ : Nat → Int → Int) (tl : Int) (tx : Int → Int) (q : Int) (h2 : μ 0 2 = tl) (h4 : ∀ i : Int, 0 ≤ i → i < tl → μ 4 i = tx i) (h3 : μ 0 3 = q) (q0 : 0 ≤ q) (q1 : q ≤ 120) (t0 : 0 ≤ tl) (t1 : tl ≤ 120) : zMr l yX8_here wsX8_here ({ frames := 0, cells := 0, slots := 0, locals := 0 }) D cI cT [.ref (am 0)] (fun _ H => zW D am 5 (mC cI am μ) H) (fun r => r = zI (lkc tx tl q)) := by
  refine Met.ofW (cc := cX8_here) (maxL := 1) (ret := (some .int)) (by decide) rfl ?_
  intro p_ e_ s m_ args below meth c_ s₁ B hml hv
  obtain ⟨rfl, hK, hF⟩ := hv
  have hx := B.exec
  have hb := B.bytes
  have hr := B.returns
  have hts := atoms_spec (ws := wsX8_here) B.pre
  have hown : s.vm.findClass RX8 = some m_.cls := findClass_of_methodNamed B.named
  have hlocks := B.notSynchronized
  have S : CallFix p_ m_ c_ cX8_here 1 s _ wsX8_here RX8 := ⟨hx, hb, hml, hown, hts⟩
  have i_X8 : ∀ w ∈ u_ws RX8 TX8 12, w ∈ wsX8_here := fun _ h => List.mem_cons_of_mem _ (List.mem_append_right _ h)
  have hP := hF
  have hl := lv_entry ([.ref (am 0)]) (n := 1) (Nat.le_of_ble_eq_true rfl)
  rw [lg_entry_eq]
  generalize (lg_sl ([.ref (am 0)]) ++ List.replicate (1 - (lg_sl ([.ref (am 0)])).length) Slot.unset).toArray = ls at hl ⊢
  have hl : lv_has ls 1 [(0, .ref (am 0))] := hl
  refine lv_aload_n (pc := 0) hx hb dX8_here_0 rfl (lv_at hl 0 rfl) ?_
  refine zr_get (pc := 1) S hK (hP 0 (by decide)) rfl i_X8 7 (by decide) (List.mem_of_getElem? (i := 1) rfl) rfl dX8_here_1 ?_
  refine zr_top (b := q) (h3) ?_
  refine lv_aload_n (pc := 4) hx hb dX8_here_4 rfl (lv_at hl 0 rfl) ?_
  refine zr_get (pc := 5) S hK (hP 0 (by decide)) rfl i_X8 6 (by decide) (List.mem_of_getElem? (i := 2) rfl) rfl dX8_here_5 ?_
  refine zr_top (b := tl) (h2) ?_
  refine zr_icmp_ge (pc := 8) (tgt := 23) hx hb dX8_here_8 (by decide) (by omega) (by omega) (fun c_8 => ?_) (fun c_8 => ?_)
  · refine lv_iconst (pc := 23) (v := zI (-1)) hx hb dX8_here_23 rfl ?_
    exact W.iret (v := zI ((-1))) hx hb hr (fun tz ht hW => ⟨_, rfl, congrArg zI (by rcases hr_cases tx tl q with h | h <;> omega), ht⟩) (fun _ h => by cases h) dX8_here_24
  · refine lv_aload_n (pc := 11) hx hb dX8_here_11 rfl (lv_at hl 0 rfl) ?_
    refine zr_get (pc := 12) S hK (hP 0 (by decide)) rfl i_X8 5 (by decide) (List.mem_of_getElem? (i := 3) rfl) rfl dX8_here_12 ?_
    refine lv_aload_n (pc := 15) hx hb dX8_here_15 rfl (lv_at hl 0 rfl) ?_
    refine zr_get (pc := 16) S hK (hP 0 (by decide)) rfl i_X8 7 (by decide) (List.mem_of_getElem? (i := 1) rfl) rfl dX8_here_16 ?_
    refine zr_top (b := q) (h3) ?_
    refine zr_ald (pc := 19) (n := 120) hx hb (zAr_of (zK_int hK) (hP 4 (by decide))) (by omega) (by omega) (by decide) dX8_here_19 ?_
    refine zr_top (b := tx q) (h4 _ q0 (by omega)) ?_
    refine lv_goto (pc := 20) (tgt := 24) hx hb dX8_here_20 (by decide) ?_
    exact W.iret (v := zI (tx q)) hx hb hr (fun tz ht hW => ⟨_, rfl, congrArg zI (by rcases hr_cases tx tl q with h | h <;> omega), ht⟩) (fun _ h => by cases h) dX8_here_24
set_option maxHeartbeats 4000000 in
set_option maxRecDepth 100000 in
theorem ct_X8_read (l : Launch) (D : va_G) (cI cT : ClassId) (sz : Nat) (am : Nat → Nat) (μ : Nat → Int → Int) (tl : Int) (tx : Int → Int) (h2 : μ 0 2 = tl) (h4 : ∀ i : Int, 0 ≤ i → i < tl → μ 4 i = tx i) (hJ : zJ am 5) (t0 : 0 ≤ tl) (t1 : tl ≤ 120) (htx : ∀ i : Int, 0 ≤ i → i < tl → 1 ≤ tx i ∧ tx i ≤ 255) (p b c d w : Int) (p0 : 0 ≤ p) (p1 : p ≤ tl) : zMv l yX8_read wsX8_read ({ frames := 1, cells := 0, slots := 0, locals := 25 }) D cI cT [.ref (am 0)] sz (fun _ H => zW D am 5 (mC cI am (rX μ p b c d w)) H) (fun H => zW D am 5 (mC cI am (rM tx tl μ p w)) H) (zR am 5 sz) := by
  refine Met.ofW (cc := cX8_read) (maxL := 1) (ret := none) (by decide) rfl ?_
  intro p_ e_ s m_ args below meth c_ s₁ B hml hv
  obtain ⟨rfl, hsz, hK, hF⟩ := hv
  have hx := B.exec
  have hb := B.bytes
  have hr := B.returns
  have hts := atoms_spec (ws := wsX8_read) B.pre
  have hown : s.vm.findClass RX8 = some m_.cls := findClass_of_methodNamed B.named
  have hlocks := B.notSynchronized
  have S : CallFix p_ m_ c_ cX8_read 1 s _ wsX8_read RX8 := ⟨hx, hb, hml, hown, hts⟩
  have i_X8 : ∀ w ∈ u_ws RX8 TX8 12, w ∈ wsX8_read := fun _ h => List.mem_cons_of_mem _ (List.mem_append_right _ h)
  subst hsz
  generalize hAe : (zR am 5 s.heap.size) = A
  have hAn : ∀ q : Nat, s.heap.size ≤ q → A q := fun q h => by rw [← hAe]; exact Or.inr h
  obtain ⟨H, hHe⟩ : ∃ H : Heap, H = s.heap := ⟨_, rfl⟩
  rw [← hHe] at hF ⊢
  have hS : va_S A s.heap H [] := by rw [hHe]; exact va_S.rf
  have hP := hF
  have hAin : ∀ k : Nat, k < 5 → A (am k) := fun k hk => by rw [← hAe]; exact Or.inl ⟨k, hk, rfl⟩
  have hl := lv_entry ([.ref (am 0)]) (n := 1) (Nat.le_of_ble_eq_true rfl)
  rw [lg_entry_eq]
  generalize (lg_sl ([.ref (am 0)]) ++ List.replicate (1 - (lg_sl ([.ref (am 0)])).length) Slot.unset).toArray = ls at hl ⊢
  have hl : lv_has ls 1 [(0, .ref (am 0))] := hl
  refine zr_hloop1 (fun (q : Int) (H : Heap) => (p ≤ q ∧ q ≤ tl) ∧ (∀ x : Int, p ≤ x → x < q → ¬ nsp tx tl x) ∧ (zW D am 5 (mC cI am (rX μ q b c d w)) H)) (fun (q : Int) => (tl - q).toNat) (fun (q : Int) => [(0, .ref (am 0))]) ?_ (p) (⟨⟨Int.le_refl _, p1⟩, fun x x0 x1 => absurd x1 (by omega), hP⟩) hS (lv_sub hl [0] rfl)
  intro q H locs hinv hS ih_0 ls hl
  obtain ⟨hq, hs, hP⟩ := hinv
  refine lv_aload_n (pc := 0) hx hb dX8_read_0 rfl (lv_at hl 0 rfl) ?_
  refine zr_vi (pc := 1) (As := []) (rest := []) S (ct_X8_here l D cI cT am (rX μ q b c d w) tl tx q (rX_2.trans h2) (fun i i0 i1 => (congrFun (rX_k (by decide)) i).trans (h4 i i0 i1)) rX_3 (by omega) (by omega) (by omega) (by omega)) (cwV 0 hts gX8_read_X8_here rfl rfl rfl (by decide +kernel) ⟨Nat.le_of_ble_eq_true rfl, Nat.le_of_ble_eq_true rfl⟩) zs0 hK hP (zr_recv hK (hP 0 (by decide)) rfl) rfl hl.1 rfl (Nat.le_of_ble_eq_true rfl) dX8_read_1 ⟨Nat.le_of_ble_eq_true rfl, Nat.le_of_ble_eq_true rfl⟩ (fun r_1 hr_1 => ?_)
  subst hr_1
  have hh_1 := hr_bd (q := q) htx (by omega)
  refine lv_bipush (pc := 4) (v := zI 32) hx hb dX8_read_4 zc_bipush_32 ?_
  refine zr_icmp_ne (pc := 6) (tgt := 22) hx hb dX8_read_6 (by decide) (by omega) (by decide) (fun c_6 => ?_) (fun c_6 => ?_)
  · have hq1 : nsp tx tl q := fun z => by rcases hr_cases tx tl q with y | y <;> omega
    have hTS := tok_at hq.1 hq1 hs
    refine lv_aload_n (pc := 22) hx hb dX8_read_22 rfl (lv_at hl 0 rfl) ?_
    refine lv_aload_n (pc := 23) hx hb dX8_read_23 rfl (lv_at hl 0 rfl) ?_
    refine zr_get (pc := 24) S hK (hP 0 (by decide)) rfl i_X8 7 (by decide) (List.mem_of_getElem? (i := 1) rfl) rfl dX8_read_24 ?_
    refine zr_top (b := q) rX_3 ?_
    refine zr_put (pc := 27) S hK (hP 0 (by decide)) rfl i_X8 tyX8 tyX8_ok nmX8 8 (by decide) (List.mem_of_getElem? (i := 2) rfl) rfl rfl rfl (Nat.le_of_ble_eq_true rfl) hS (hAin 0 (by decide)) dX8_read_27 (fun H locs hO hz hk hS => ?_)
    have hP := zW.put hP hJ 0 (by decide) hO hk (mC_0_4 q)
    rw [rX_s4] at hP
    refine lv_aload_n (pc := 30) hx hb dX8_read_30 rfl (lv_at hl 0 rfl) ?_
    refine lv_lconst (pc := 31) (v := zL 0) hx hb dX8_read_31 rfl ?_
    refine zr_put (pc := 32) S hK (hP 0 (by decide)) rfl i_X8 tyX8 tyX8_ok nmX8 10 (by decide) (List.mem_of_getElem? (i := 3) rfl) rfl rfl rfl (Nat.le_of_ble_eq_true rfl) hS (hAin 0 (by decide)) dX8_read_32 (fun H locs hO hz hk hS => ?_)
    have hP := zW.put hP hJ 0 (by decide) hO hk (mC_0_6 0)
    rw [rX_s6] at hP
    refine zr_cut1 (nL := 1) (fun (t : Int) => ((lkc tx tl q < 0 ∧ t = 4) ∨ (0 ≤ lkc tx tl q ∧ lkc tx tl q = 59 ∧ t = 2) ∨ (0 ≤ lkc tx tl q ∧ lkc tx tl q ≠ 59 ∧ t = 3))) (fun (t : Int) => [(0, .ref (am 0))]) (fun (t : Int) => [.int (zI (t)), .ref (am 0)]) (pc2 := 61) ?_ (fun J_61 => ?_)
    · intro t hinv ls hl
      have h_t := hinv
      have htr : 2 ≤ t ∧ t ≤ 4 := by omega
      refine zr_put (pc := 61) S hK (hP 0 (by decide)) rfl i_X8 tyX8 tyX8_ok nmX8 9 (by decide) (List.mem_of_getElem? (i := 4) rfl) rfl rfl rfl (Nat.le_of_ble_eq_true rfl) hS (hAin 0 (by decide)) dX8_read_61 (fun H locs hO hz hk hS => ?_)
      have hP := zW.put hP hJ 0 (by decide) hO hk (mC_0_5 t)
      rw [rX_s5] at hP
      refine lv_aload_n (pc := 64) hx hb dX8_read_64 rfl (lv_at hl 0 rfl) ?_
      refine zr_vi (pc := 65) (As := []) (rest := []) S (ct_X8_here l D cI cT am (rX μ q q t 0 w) tl tx q (rX_2.trans h2) (fun i i0 i1 => (congrFun (rX_k (by decide)) i).trans (h4 i i0 i1)) rX_3 (by omega) (by omega) (by omega) (by omega)) (cwV 0 hts gX8_read_X8_here rfl rfl rfl (by decide +kernel) ⟨Nat.le_of_ble_eq_true rfl, Nat.le_of_ble_eq_true rfl⟩) zs0 hK hP (zr_recv hK (hP 0 (by decide)) rfl) rfl hl.1 rfl (Nat.le_of_ble_eq_true rfl) dX8_read_65 ⟨Nat.le_of_ble_eq_true rfl, Nat.le_of_ble_eq_true rfl⟩ (fun r_65 hr_65 => ?_)
      subst hr_65
      have hh_65 := hr_bd (q := q) htx (by omega)
      refine zr_i2l (pc := 68) hx hb dX8_read_68 (by omega) ?_
      refine zr_ldc2 (pc := 69) (w := 97) hx hb hown (hts _ (List.mem_of_getElem? (i := 5) rfl)) dX8_read_69 (by decide +kernel) ?_
      refine zr_ldc2 (pc := 72) (w := 122) hx hb hown (hts _ (List.mem_of_getElem? (i := 6) rfl)) dX8_read_72 (by decide +kernel) ?_
      refine zr_si (pc := 75) (As := [.long (zL (lkc tx tl q)), .long (zL (97)), .long (zL (122))]) (rest := []) S (ct_X8_in l D cI cT (lkc tx tl q) 97 122 (by omega) (by decide) (by decide)) (va_cwS 3 hts gX8_read_X8_in rfl rfl rfl (by decide +kernel) ⟨Nat.le_of_ble_eq_true rfl, Nat.le_of_ble_eq_true rfl⟩) zs0 hK trivial rfl hl.1 rfl (Nat.le_of_ble_eq_true rfl) dX8_read_75 ⟨Nat.le_of_ble_eq_true rfl, Nat.le_of_ble_eq_true rfl⟩ (fun r_75 hr_75 => ?_)
      rcases hr_75 with ⟨hb_75, rfl⟩ | ⟨hb_75, rfl⟩
      · refine zr_if_eq (pc := 78) (tgt := 158) hx hb dX8_read_78 (by decide) (by decide) (fun z => absurd z (by decide)) (fun _ => ?_)
        refine lv_aload_n (pc := 81) hx hb dX8_read_81 rfl (lv_at hl 0 rfl) ?_
        refine lv_iconst (pc := 82) (v := zI 0) hx hb dX8_read_82 rfl ?_
        refine zr_put (pc := 83) S hK (hP 0 (by decide)) rfl i_X8 tyX8 tyX8_ok nmX8 9 (by decide) (List.mem_of_getElem? (i := 4) rfl) rfl rfl rfl (Nat.le_of_ble_eq_true rfl) hS (hAin 0 (by decide)) dX8_read_83 (fun H locs hO hz hk hS => ?_)
        have hP := zW.put hP hJ 0 (by decide) hO hk (mC_0_5 0)
        rw [rX_s5] at hP
        refine zr_hloop2 (fun (i : Nat) (v : Int) (H : Heap) => (q + (i : Int) ≤ tl) ∧ (∀ x : Int, q ≤ x → x < q + (i : Int) → kd tx tl x = 1) ∧ (v = wv tx q i) ∧ (zW D am 5 (mC cI am (rX μ (q + (i : Int)) q 0 v w)) H)) (fun (i : Nat) (v : Int) => (tl - (q + (i : Int))).toNat) (fun (i : Nat) (v : Int) => [(0, .ref (am 0))]) ?_ (0) (0) (⟨by omega, fun x x0 x1 => absurd x1 (by omega), rfl, by rw [show q + ((0 : Nat) : Int) = q by omega]; exact hP⟩) hS (lv_sub hl [0] rfl)
        intro i v H locs hinv hS ih_86 ls hl
        obtain ⟨hi, hl1, hv, hP⟩ := hinv
        refine lv_aload_n (pc := 86) hx hb dX8_read_86 rfl (lv_at hl 0 rfl) ?_
        refine zr_vi (pc := 87) (As := []) (rest := []) S (ct_X8_here l D cI cT am (rX μ (q + (i : Int)) q 0 v w) tl tx (q + (i : Int)) (rX_2.trans h2) (fun i i0 i1 => (congrFun (rX_k (by decide)) i).trans (h4 i i0 i1)) rX_3 (by omega) (by omega) (by omega) (by omega)) (cwV 0 hts gX8_read_X8_here rfl rfl rfl (by decide +kernel) ⟨Nat.le_of_ble_eq_true rfl, Nat.le_of_ble_eq_true rfl⟩) zs0 hK hP (zr_recv hK (hP 0 (by decide)) rfl) rfl hl.1 rfl (Nat.le_of_ble_eq_true rfl) dX8_read_87 ⟨Nat.le_of_ble_eq_true rfl, Nat.le_of_ble_eq_true rfl⟩ (fun r_87 hr_87 => ?_)
        subst hr_87
        have hh_87 := hr_bd (q := q + (i : Int)) htx (by omega)
        refine zr_i2l (pc := 90) hx hb dX8_read_90 (by omega) ?_
        refine zr_ldc2 (pc := 91) (w := 97) hx hb hown (hts _ (List.mem_of_getElem? (i := 5) rfl)) dX8_read_91 (by decide +kernel) ?_
        refine zr_ldc2 (pc := 94) (w := 122) hx hb hown (hts _ (List.mem_of_getElem? (i := 6) rfl)) dX8_read_94 (by decide +kernel) ?_
        refine zr_si (pc := 97) (As := [.long (zL (lkc tx tl (q + (i : Int)))), .long (zL (97)), .long (zL (122))]) (rest := []) S (ct_X8_in l D cI cT (lkc tx tl (q + (i : Int))) 97 122 (by omega) (by decide) (by decide)) (va_cwS 3 hts gX8_read_X8_in rfl rfl rfl (by decide +kernel) ⟨Nat.le_of_ble_eq_true rfl, Nat.le_of_ble_eq_true rfl⟩) zs0 hK trivial rfl hl.1 rfl (Nat.le_of_ble_eq_true rfl) dX8_read_97 ⟨Nat.le_of_ble_eq_true rfl, Nat.le_of_ble_eq_true rfl⟩ (fun r_97 hr_97 => ?_)
        rcases hr_97 with ⟨hb_97, rfl⟩ | ⟨hb_97, rfl⟩
        · refine zr_if_eq (pc := 100) (tgt := 301) hx hb dX8_read_100 (by decide) (by decide) (fun z => absurd z (by decide)) (fun _ => ?_)
          refine lv_aload_n (pc := 103) hx hb dX8_read_103 rfl (lv_at hl 0 rfl) ?_
          refine lv_aload_n (pc := 104) hx hb dX8_read_104 rfl (lv_at hl 0 rfl) ?_
          refine zr_get (pc := 105) S hK (hP 0 (by decide)) rfl i_X8 7 (by decide) (List.mem_of_getElem? (i := 1) rfl) rfl dX8_read_105 ?_
          refine zr_top (b := q + (i : Int)) rX_3 ?_
          refine lv_aload_n (pc := 108) hx hb dX8_read_108 rfl (lv_at hl 0 rfl) ?_
          refine zr_get (pc := 109) S hK (hP 0 (by decide)) rfl i_X8 8 (by decide) (List.mem_of_getElem? (i := 2) rfl) rfl dX8_read_109 ?_
          refine zr_top (b := q) rX_4 ?_
          refine zr_isub (pc := 112) (d := (q + (i : Int)) - q) hx hb dX8_read_112 rfl ?_
          refine lv_bipush (pc := 113) (v := zI 8) hx hb dX8_read_113 zc_bipush_8 ?_
          refine zr_icmp_ge (pc := 115) (tgt := 141) hx hb dX8_read_115 (by decide) (by omega) (by decide) (fun c_115 => ?_) (fun c_115 => ?_)
          · refine lv_lconst (pc := 141) (v := zL 0) hx hb dX8_read_141 rfl ?_
            refine zr_put (pc := 142) S hK (hP 0 (by decide)) rfl i_X8 tyX8 tyX8_ok nmX8 10 (by decide) (List.mem_of_getElem? (i := 3) rfl) rfl rfl rfl (Nat.le_of_ble_eq_true rfl) hS (hAin 0 (by decide)) dX8_read_142 (fun H locs hO hz hk hS => ?_)
            have hP := zW.put hP hJ 0 (by decide) hO hk (mC_0_6 0)
            rw [rX_s6] at hP
            refine lv_aload_n (pc := 145) hx hb dX8_read_145 rfl (lv_at hl 0 rfl) ?_
            refine lv_dup (pc := 146) hx hb dX8_read_146 rfl ?_
            refine zr_get (pc := 147) S hK (hP 0 (by decide)) rfl i_X8 7 (by decide) (List.mem_of_getElem? (i := 1) rfl) rfl dX8_read_147 ?_
            refine zr_top (b := q + (i : Int)) rX_3 ?_
            refine lv_iconst (pc := 150) (v := zI 1) hx hb dX8_read_150 rfl ?_
            refine zr_iadd (pc := 151) (d := (q + (i : Int)) + 1) hx hb dX8_read_151 rfl ?_
            refine zr_put (pc := 152) S hK (hP 0 (by decide)) rfl i_X8 tyX8 tyX8_ok nmX8 7 (by decide) (List.mem_of_getElem? (i := 1) rfl) rfl rfl rfl (Nat.le_of_ble_eq_true rfl) hS (hAin 0 (by decide)) dX8_read_152 (fun H locs hO hz hk hS => ?_)
            have hP := zW.put hP hJ 0 (by decide) hO hk (mC_0_3 ((q + (i : Int)) + 1))
            rw [rX_s3] at hP
            refine lv_goto (pc := 155) (tgt := 86) hx hb dX8_read_155 (by decide) ?_
            exact ih_86 (i + 1) (0) H locs (⟨by have z := hr_let hb_97; omega, by rw [show q + ((i + 1 : Nat) : Int) = q + (i : Int) + 1 by omega]; exact fa_q hl1 (hr_let hb_97).2.2, by have z := (hr_let hb_97).2.1; rw [wv_s]; first | (rw [if_pos (by omega)]; omega) | (rw [if_neg (by omega)]), by rw [show q + ((i + 1 : Nat) : Int) = q + (i : Int) + 1 by omega]; exact hP⟩) hS (by have z := (hr_let hb_97).1; omega) ls (lv_sub hl [0] rfl)
          · refine zr_ldc2 (pc := 118) (w := 27) hx hb hown (hts _ (List.mem_of_getElem? (i := 7) rfl)) dX8_read_118 (by decide +kernel) ?_
            refine lv_aload_n (pc := 121) hx hb dX8_read_121 rfl (lv_at hl 0 rfl) ?_
            refine zr_get (pc := 122) S hK (hP 0 (by decide)) rfl i_X8 10 (by decide) (List.mem_of_getElem? (i := 3) rfl) rfl dX8_read_122 ?_
            refine zr_topl (b := v) rX_6 ?_
            refine zr_lmul (pc := 125) (d := 27 * v) hx hb dX8_read_125 rfl ?_
            refine lv_aload_n (pc := 126) hx hb dX8_read_126 rfl (lv_at hl 0 rfl) ?_
            refine zr_vi (pc := 127) (As := []) (rest := [.long (zL (27 * v)), .ref (am 0)]) S (ct_X8_here l D cI cT am (rX μ (q + (i : Int)) q 0 v w) tl tx (q + (i : Int)) (rX_2.trans h2) (fun i i0 i1 => (congrFun (rX_k (by decide)) i).trans (h4 i i0 i1)) rX_3 (by omega) (by omega) (by omega) (by omega)) (cwV 0 hts gX8_read_X8_here rfl rfl rfl (by decide +kernel) ⟨Nat.le_of_ble_eq_true rfl, Nat.le_of_ble_eq_true rfl⟩) zs0 hK hP (zr_recv hK (hP 0 (by decide)) rfl) rfl hl.1 rfl (Nat.le_of_ble_eq_true rfl) dX8_read_127 ⟨Nat.le_of_ble_eq_true rfl, Nat.le_of_ble_eq_true rfl⟩ (fun r_127 hr_127 => ?_)
            subst hr_127
            have hh_127 := hr_bd (q := q + (i : Int)) htx (by omega)
            refine zr_i2l (pc := 130) hx hb dX8_read_130 (by omega) ?_
            refine zr_ladd (pc := 131) (d := (27 * v) + (lkc tx tl (q + (i : Int)))) hx hb dX8_read_131 rfl ?_
            refine zr_ldc2 (pc := 132) (w := 97) hx hb hown (hts _ (List.mem_of_getElem? (i := 5) rfl)) dX8_read_132 (by decide +kernel) ?_
            refine zr_lsub (pc := 135) (d := ((27 * v) + (lkc tx tl (q + (i : Int)))) - 97) hx hb dX8_read_135 rfl ?_
            refine lv_lconst (pc := 136) (v := zL 1) hx hb dX8_read_136 rfl ?_
            refine zr_ladd (pc := 137) (d := (((27 * v) + (lkc tx tl (q + (i : Int)))) - 97) + 1) hx hb dX8_read_137 rfl ?_
            refine lv_goto (pc := 138) (tgt := 142) hx hb dX8_read_138 (by decide) ?_
            refine zr_put (pc := 142) S hK (hP 0 (by decide)) rfl i_X8 tyX8 tyX8_ok nmX8 10 (by decide) (List.mem_of_getElem? (i := 3) rfl) rfl rfl rfl (Nat.le_of_ble_eq_true rfl) hS (hAin 0 (by decide)) dX8_read_142 (fun H locs hO hz hk hS => ?_)
            have hP := zW.put hP hJ 0 (by decide) hO hk (mC_0_6 ((((27 * v) + (lkc tx tl (q + (i : Int)))) - 97) + 1))
            rw [rX_s6] at hP
            refine lv_aload_n (pc := 145) hx hb dX8_read_145 rfl (lv_at hl 0 rfl) ?_
            refine lv_dup (pc := 146) hx hb dX8_read_146 rfl ?_
            refine zr_get (pc := 147) S hK (hP 0 (by decide)) rfl i_X8 7 (by decide) (List.mem_of_getElem? (i := 1) rfl) rfl dX8_read_147 ?_
            refine zr_top (b := q + (i : Int)) rX_3 ?_
            refine lv_iconst (pc := 150) (v := zI 1) hx hb dX8_read_150 rfl ?_
            refine zr_iadd (pc := 151) (d := (q + (i : Int)) + 1) hx hb dX8_read_151 rfl ?_
            refine zr_put (pc := 152) S hK (hP 0 (by decide)) rfl i_X8 tyX8 tyX8_ok nmX8 7 (by decide) (List.mem_of_getElem? (i := 1) rfl) rfl rfl rfl (Nat.le_of_ble_eq_true rfl) hS (hAin 0 (by decide)) dX8_read_152 (fun H locs hO hz hk hS => ?_)
            have hP := zW.put hP hJ 0 (by decide) hO hk (mC_0_3 ((q + (i : Int)) + 1))
            rw [rX_s3] at hP
            refine lv_goto (pc := 155) (tgt := 86) hx hb dX8_read_155 (by decide) ?_
            exact ih_86 (i + 1) (((((27 * v) + (lkc tx tl (q + (i : Int)))) - 97) + 1)) H locs (⟨by have z := hr_let hb_97; omega, by rw [show q + ((i + 1 : Nat) : Int) = q + (i : Int) + 1 by omega]; exact fa_q hl1 (hr_let hb_97).2.2, by have z := (hr_let hb_97).2.1; rw [wv_s]; first | (rw [if_pos (by omega)]; omega) | (rw [if_neg (by omega)]), by rw [show q + ((i + 1 : Nat) : Int) = q + (i : Int) + 1 by omega]; exact hP⟩) hS (by have z := (hr_let hb_97).1; omega) ls (lv_sub hl [0] rfl)
        · refine zr_if_eq (pc := 100) (tgt := 301) hx hb dX8_read_100 (by decide) (by decide) (fun _ => ?_) (fun z => absurd z (by decide))
          exact W.vret hx hb hr (fun tz ht hW => ⟨⟨(), rfl, trivial, by dsimp only; rw [ht]; exact (by obtain ⟨e1, e2, e3⟩ := read_w hTS hb_75 hl1 hb_97 hv; show zW D am 5 (mC cI am (rX μ (tE tx tl p) (tS tx tl p) (rK tx tl p) (rV tx tl p) w)) H; rw [e1, hTS, e2, e3]; exact hP)⟩, hS.F ht⟩) hS.2.2 dX8_read_301
      · refine zr_if_eq (pc := 78) (tgt := 158) hx hb dX8_read_78 (by decide) (by decide) (fun _ => ?_) (fun z => absurd z (by decide))
        refine lv_aload_n (pc := 158) hx hb dX8_read_158 rfl (lv_at hl 0 rfl) ?_
        refine zr_vi (pc := 159) (As := []) (rest := []) S (ct_X8_here l D cI cT am (rX μ q q t 0 w) tl tx q (rX_2.trans h2) (fun i i0 i1 => (congrFun (rX_k (by decide)) i).trans (h4 i i0 i1)) rX_3 (by omega) (by omega) (by omega) (by omega)) (cwV 0 hts gX8_read_X8_here rfl rfl rfl (by decide +kernel) ⟨Nat.le_of_ble_eq_true rfl, Nat.le_of_ble_eq_true rfl⟩) zs0 hK hP (zr_recv hK (hP 0 (by decide)) rfl) rfl hl.1 rfl (Nat.le_of_ble_eq_true rfl) dX8_read_159 ⟨Nat.le_of_ble_eq_true rfl, Nat.le_of_ble_eq_true rfl⟩ (fun r_159 hr_159 => ?_)
        subst hr_159
        have hh_159 := hr_bd (q := q) htx (by omega)
        refine zr_i2l (pc := 162) hx hb dX8_read_162 (by omega) ?_
        refine zr_ldc2 (pc := 163) (w := 48) hx hb hown (hts _ (List.mem_of_getElem? (i := 8) rfl)) dX8_read_163 (by decide +kernel) ?_
        refine zr_ldc2 (pc := 166) (w := 57) hx hb hown (hts _ (List.mem_of_getElem? (i := 9) rfl)) dX8_read_166 (by decide +kernel) ?_
        refine zr_si (pc := 169) (As := [.long (zL (lkc tx tl q)), .long (zL (48)), .long (zL (57))]) (rest := []) S (ct_X8_in l D cI cT (lkc tx tl q) 48 57 (by omega) (by decide) (by decide)) (va_cwS 3 hts gX8_read_X8_in rfl rfl rfl (by decide +kernel) ⟨Nat.le_of_ble_eq_true rfl, Nat.le_of_ble_eq_true rfl⟩) zs0 hK trivial rfl hl.1 rfl (Nat.le_of_ble_eq_true rfl) dX8_read_169 ⟨Nat.le_of_ble_eq_true rfl, Nat.le_of_ble_eq_true rfl⟩ (fun r_169 hr_169 => ?_)
        rcases hr_169 with ⟨hb_169, rfl⟩ | ⟨hb_169, rfl⟩
        · refine zr_if_eq (pc := 172) (tgt := 284) hx hb dX8_read_172 (by decide) (by decide) (fun z => absurd z (by decide)) (fun _ => ?_)
          refine zr_hloop2 (fun (i : Nat) (v : Int) (H : Heap) => (q + (i : Int) ≤ tl) ∧ (∀ x : Int, q ≤ x → x < q + (i : Int) → kd tx tl x = 2) ∧ (v = wn tx q i) ∧ (zW D am 5 (mC cI am (rX μ (q + (i : Int)) q t v w)) H)) (fun (i : Nat) (v : Int) => (tl - (q + (i : Int))).toNat) (fun (i : Nat) (v : Int) => [(0, .ref (am 0))]) ?_ (0) (0) (⟨by omega, fun x x0 x1 => absurd x1 (by omega), rfl, by rw [show q + ((0 : Nat) : Int) = q by omega]; exact hP⟩) hS (lv_sub hl [0] rfl)
          intro i v H locs hinv hS ih_175 ls hl
          obtain ⟨hi, hl1, hv, hP⟩ := hinv
          have hvb : 0 ≤ v ∧ v ≤ 1000000 := by rw [hv]; exact (wn_nv (fun k k0 k1 => kd2_dig (hl1 _ (by omega) (by omega)))).1
          refine lv_aload_n (pc := 175) hx hb dX8_read_175 rfl (lv_at hl 0 rfl) ?_
          refine zr_vi (pc := 176) (As := []) (rest := []) S (ct_X8_here l D cI cT am (rX μ (q + (i : Int)) q t v w) tl tx (q + (i : Int)) (rX_2.trans h2) (fun i i0 i1 => (congrFun (rX_k (by decide)) i).trans (h4 i i0 i1)) rX_3 (by omega) (by omega) (by omega) (by omega)) (cwV 0 hts gX8_read_X8_here rfl rfl rfl (by decide +kernel) ⟨Nat.le_of_ble_eq_true rfl, Nat.le_of_ble_eq_true rfl⟩) zs0 hK hP (zr_recv hK (hP 0 (by decide)) rfl) rfl hl.1 rfl (Nat.le_of_ble_eq_true rfl) dX8_read_176 ⟨Nat.le_of_ble_eq_true rfl, Nat.le_of_ble_eq_true rfl⟩ (fun r_176 hr_176 => ?_)
          subst hr_176
          have hh_176 := hr_bd (q := q + (i : Int)) htx (by omega)
          refine zr_i2l (pc := 179) hx hb dX8_read_179 (by omega) ?_
          refine zr_ldc2 (pc := 180) (w := 48) hx hb hown (hts _ (List.mem_of_getElem? (i := 8) rfl)) dX8_read_180 (by decide +kernel) ?_
          refine zr_ldc2 (pc := 183) (w := 57) hx hb hown (hts _ (List.mem_of_getElem? (i := 9) rfl)) dX8_read_183 (by decide +kernel) ?_
          refine zr_si (pc := 186) (As := [.long (zL (lkc tx tl (q + (i : Int)))), .long (zL (48)), .long (zL (57))]) (rest := []) S (ct_X8_in l D cI cT (lkc tx tl (q + (i : Int))) 48 57 (by omega) (by decide) (by decide)) (va_cwS 3 hts gX8_read_X8_in rfl rfl rfl (by decide +kernel) ⟨Nat.le_of_ble_eq_true rfl, Nat.le_of_ble_eq_true rfl⟩) zs0 hK trivial rfl hl.1 rfl (Nat.le_of_ble_eq_true rfl) dX8_read_186 ⟨Nat.le_of_ble_eq_true rfl, Nat.le_of_ble_eq_true rfl⟩ (fun r_186 hr_186 => ?_)
          rcases hr_186 with ⟨hb_186, rfl⟩ | ⟨hb_186, rfl⟩
          · refine zr_if_eq (pc := 189) (tgt := 245) hx hb dX8_read_189 (by decide) (by decide) (fun z => absurd z (by decide)) (fun _ => ?_)
            refine lv_aload_n (pc := 192) hx hb dX8_read_192 rfl (lv_at hl 0 rfl) ?_
            refine lv_aload_n (pc := 193) hx hb dX8_read_193 rfl (lv_at hl 0 rfl) ?_
            refine zr_get (pc := 194) S hK (hP 0 (by decide)) rfl i_X8 10 (by decide) (List.mem_of_getElem? (i := 3) rfl) rfl dX8_read_194 ?_
            refine zr_topl (b := v) rX_6 ?_
            refine zr_ldc2 (pc := 197) (w := 100000) hx hb hown (hts _ (List.mem_of_getElem? (i := 10) rfl)) dX8_read_197 (by decide +kernel) ?_
            refine zr_lcmp_ge (pc := 200) (tgt := 225) hx hb dX8_read_200 dX8_read_201 (by decide) (by omega) (by decide) (fun c_201 => ?_) (fun c_201 => ?_)
            · refine lv_aload_n (pc := 225) hx hb dX8_read_225 rfl (lv_at hl 0 rfl) ?_
              refine zr_get (pc := 226) S hK (hP 0 (by decide)) rfl i_X8 10 (by decide) (List.mem_of_getElem? (i := 3) rfl) rfl dX8_read_226 ?_
              refine zr_topl (b := v) rX_6 ?_
              refine zr_put (pc := 229) S hK (hP 0 (by decide)) rfl i_X8 tyX8 tyX8_ok nmX8 10 (by decide) (List.mem_of_getElem? (i := 3) rfl) rfl rfl rfl (Nat.le_of_ble_eq_true rfl) hS (hAin 0 (by decide)) dX8_read_229 (fun H locs hO hz hk hS => ?_)
              have hP := zW.put hP hJ 0 (by decide) hO hk (mC_0_6 v)
              rw [rX_s6] at hP
              refine lv_aload_n (pc := 232) hx hb dX8_read_232 rfl (lv_at hl 0 rfl) ?_
              refine lv_dup (pc := 233) hx hb dX8_read_233 rfl ?_
              refine zr_get (pc := 234) S hK (hP 0 (by decide)) rfl i_X8 7 (by decide) (List.mem_of_getElem? (i := 1) rfl) rfl dX8_read_234 ?_
              refine zr_top (b := q + (i : Int)) rX_3 ?_
              refine lv_iconst (pc := 237) (v := zI 1) hx hb dX8_read_237 rfl ?_
              refine zr_iadd (pc := 238) (d := (q + (i : Int)) + 1) hx hb dX8_read_238 rfl ?_
              refine zr_put (pc := 239) S hK (hP 0 (by decide)) rfl i_X8 tyX8 tyX8_ok nmX8 7 (by decide) (List.mem_of_getElem? (i := 1) rfl) rfl rfl rfl (Nat.le_of_ble_eq_true rfl) hS (hAin 0 (by decide)) dX8_read_239 (fun H locs hO hz hk hS => ?_)
              have hP := zW.put hP hJ 0 (by decide) hO hk (mC_0_3 ((q + (i : Int)) + 1))
              rw [rX_s3] at hP
              refine lv_goto (pc := 242) (tgt := 175) hx hb dX8_read_242 (by decide) ?_
              exact ih_175 (i + 1) (v) H locs (⟨by have z := hr_dig hb_186; omega, by rw [show q + ((i + 1 : Nat) : Int) = q + (i : Int) + 1 by omega]; exact fa_q hl1 (hr_dig hb_186).2.2, by have z := (hr_dig hb_186).2.1; rw [wn_s]; first | (rw [if_pos (by omega)]; omega) | (rw [if_neg (by omega)]; exact hv), by rw [show q + ((i + 1 : Nat) : Int) = q + (i : Int) + 1 by omega]; exact hP⟩) hS (by have z := (hr_dig hb_186).1; omega) ls (lv_sub hl [0] rfl)
            · refine zr_ldc2 (pc := 204) (w := 10) hx hb hown (hts _ (List.mem_of_getElem? (i := 11) rfl)) dX8_read_204 (by decide +kernel) ?_
              refine lv_aload_n (pc := 207) hx hb dX8_read_207 rfl (lv_at hl 0 rfl) ?_
              refine zr_get (pc := 208) S hK (hP 0 (by decide)) rfl i_X8 10 (by decide) (List.mem_of_getElem? (i := 3) rfl) rfl dX8_read_208 ?_
              refine zr_topl (b := v) rX_6 ?_
              refine zr_lmul (pc := 211) (d := 10 * v) hx hb dX8_read_211 rfl ?_
              refine lv_aload_n (pc := 212) hx hb dX8_read_212 rfl (lv_at hl 0 rfl) ?_
              refine zr_vi (pc := 213) (As := []) (rest := [.long (zL (10 * v)), .ref (am 0)]) S (ct_X8_here l D cI cT am (rX μ (q + (i : Int)) q t v w) tl tx (q + (i : Int)) (rX_2.trans h2) (fun i i0 i1 => (congrFun (rX_k (by decide)) i).trans (h4 i i0 i1)) rX_3 (by omega) (by omega) (by omega) (by omega)) (cwV 0 hts gX8_read_X8_here rfl rfl rfl (by decide +kernel) ⟨Nat.le_of_ble_eq_true rfl, Nat.le_of_ble_eq_true rfl⟩) zs0 hK hP (zr_recv hK (hP 0 (by decide)) rfl) rfl hl.1 rfl (Nat.le_of_ble_eq_true rfl) dX8_read_213 ⟨Nat.le_of_ble_eq_true rfl, Nat.le_of_ble_eq_true rfl⟩ (fun r_213 hr_213 => ?_)
              subst hr_213
              have hh_213 := hr_bd (q := q + (i : Int)) htx (by omega)
              refine zr_i2l (pc := 216) hx hb dX8_read_216 (by omega) ?_
              refine zr_ladd (pc := 217) (d := (10 * v) + (lkc tx tl (q + (i : Int)))) hx hb dX8_read_217 rfl ?_
              refine zr_ldc2 (pc := 218) (w := 48) hx hb hown (hts _ (List.mem_of_getElem? (i := 8) rfl)) dX8_read_218 (by decide +kernel) ?_
              refine zr_lsub (pc := 221) (d := ((10 * v) + (lkc tx tl (q + (i : Int)))) - 48) hx hb dX8_read_221 rfl ?_
              refine lv_goto (pc := 222) (tgt := 229) hx hb dX8_read_222 (by decide) ?_
              refine zr_put (pc := 229) S hK (hP 0 (by decide)) rfl i_X8 tyX8 tyX8_ok nmX8 10 (by decide) (List.mem_of_getElem? (i := 3) rfl) rfl rfl rfl (Nat.le_of_ble_eq_true rfl) hS (hAin 0 (by decide)) dX8_read_229 (fun H locs hO hz hk hS => ?_)
              have hP := zW.put hP hJ 0 (by decide) hO hk (mC_0_6 (((10 * v) + (lkc tx tl (q + (i : Int)))) - 48))
              rw [rX_s6] at hP
              refine lv_aload_n (pc := 232) hx hb dX8_read_232 rfl (lv_at hl 0 rfl) ?_
              refine lv_dup (pc := 233) hx hb dX8_read_233 rfl ?_
              refine zr_get (pc := 234) S hK (hP 0 (by decide)) rfl i_X8 7 (by decide) (List.mem_of_getElem? (i := 1) rfl) rfl dX8_read_234 ?_
              refine zr_top (b := q + (i : Int)) rX_3 ?_
              refine lv_iconst (pc := 237) (v := zI 1) hx hb dX8_read_237 rfl ?_
              refine zr_iadd (pc := 238) (d := (q + (i : Int)) + 1) hx hb dX8_read_238 rfl ?_
              refine zr_put (pc := 239) S hK (hP 0 (by decide)) rfl i_X8 tyX8 tyX8_ok nmX8 7 (by decide) (List.mem_of_getElem? (i := 1) rfl) rfl rfl rfl (Nat.le_of_ble_eq_true rfl) hS (hAin 0 (by decide)) dX8_read_239 (fun H locs hO hz hk hS => ?_)
              have hP := zW.put hP hJ 0 (by decide) hO hk (mC_0_3 ((q + (i : Int)) + 1))
              rw [rX_s3] at hP
              refine lv_goto (pc := 242) (tgt := 175) hx hb dX8_read_242 (by decide) ?_
              exact ih_175 (i + 1) ((((10 * v) + (lkc tx tl (q + (i : Int)))) - 48)) H locs (⟨by have z := hr_dig hb_186; omega, by rw [show q + ((i + 1 : Nat) : Int) = q + (i : Int) + 1 by omega]; exact fa_q hl1 (hr_dig hb_186).2.2, by have z := (hr_dig hb_186).2.1; rw [wn_s]; first | (rw [if_pos (by omega)]; omega) | (rw [if_neg (by omega)]; exact hv), by rw [show q + ((i + 1 : Nat) : Int) = q + (i : Int) + 1 by omega]; exact hP⟩) hS (by have z := (hr_dig hb_186).1; omega) ls (lv_sub hl [0] rfl)
          · refine zr_if_eq (pc := 189) (tgt := 245) hx hb dX8_read_189 (by decide) (by decide) (fun _ => ?_) (fun z => absurd z (by decide))
            have hqt := (hr_dig hb_169).1
            have htq := htx q (by omega) hqt
            refine lv_aload_n (pc := 245) hx hb dX8_read_245 rfl (lv_at hl 0 rfl) ?_
            refine lv_aload_n (pc := 246) hx hb dX8_read_246 rfl (lv_at hl 0 rfl) ?_
            refine zr_get (pc := 247) S hK (hP 0 (by decide)) rfl i_X8 5 (by decide) (List.mem_of_getElem? (i := 12) rfl) rfl dX8_read_247 ?_
            refine lv_aload_n (pc := 250) hx hb dX8_read_250 rfl (lv_at hl 0 rfl) ?_
            refine zr_get (pc := 251) S hK (hP 0 (by decide)) rfl i_X8 8 (by decide) (List.mem_of_getElem? (i := 2) rfl) rfl dX8_read_251 ?_
            refine zr_top (b := q) rX_4 ?_
            refine zr_ald (pc := 254) (n := 120) hx hb (zAr_of (zK_int hK) (hP 4 (by decide))) (by omega) (by omega) (by decide) dX8_read_254 ?_
            refine zr_top (b := tx q) ((congrFun (rX_k (by decide)) _).trans (h4 _ (by omega) (hr_dig hb_169).1)) ?_
            refine lv_bipush (pc := 255) (v := zI 48) hx hb dX8_read_255 zc_bipush_48 ?_
            refine zr_icmp_ne (pc := 257) (tgt := 273) hx hb dX8_read_257 (by decide) (by omega) (by decide) (fun c_257 => ?_) (fun c_257 => ?_)
            · refine lv_iconst (pc := 273) (v := zI 1) hx hb dX8_read_273 rfl ?_
              refine lv_goto (pc := 274) (tgt := 278) hx hb dX8_read_274 (by decide) ?_
              refine zr_put (pc := 278) S hK (hP 0 (by decide)) rfl i_X8 tyX8 tyX8_ok nmX8 9 (by decide) (List.mem_of_getElem? (i := 4) rfl) rfl rfl rfl (Nat.le_of_ble_eq_true rfl) hS (hAin 0 (by decide)) dX8_read_278 (fun H locs hO hz hk hS => ?_)
              have hP := zW.put hP hJ 0 (by decide) hO hk (mC_0_5 1)
              rw [rX_s5] at hP
              refine lv_goto (pc := 281) (tgt := 301) hx hb dX8_read_281 (by decide) ?_
              exact W.vret hx hb hr (fun tz ht hW => ⟨⟨(), rfl, trivial, by dsimp only; rw [ht]; exact (by obtain ⟨e1, e2, e2b, e3⟩ := read_n hTS hb_169 hl1 hb_186 hv; show zW D am 5 (mC cI am (rX μ (tE tx tl p) (tS tx tl p) (rK tx tl p) (rV tx tl p) w)) H; rw [e1, hTS, e2 (fun z => by omega), e3]; exact hP)⟩, hS.F ht⟩) hS.2.2 dX8_read_301
            · refine lv_aload_n (pc := 260) hx hb dX8_read_260 rfl (lv_at hl 0 rfl) ?_
              refine zr_get (pc := 261) S hK (hP 0 (by decide)) rfl i_X8 7 (by decide) (List.mem_of_getElem? (i := 1) rfl) rfl dX8_read_261 ?_
              refine zr_top (b := q + (i : Int)) rX_3 ?_
              refine lv_aload_n (pc := 264) hx hb dX8_read_264 rfl (lv_at hl 0 rfl) ?_
              refine zr_get (pc := 265) S hK (hP 0 (by decide)) rfl i_X8 8 (by decide) (List.mem_of_getElem? (i := 2) rfl) rfl dX8_read_265 ?_
              refine zr_top (b := q) rX_4 ?_
              refine lv_iconst (pc := 268) (v := zI 1) hx hb dX8_read_268 rfl ?_
              refine zr_iadd (pc := 269) (d := q + 1) hx hb dX8_read_269 rfl ?_
              refine zr_icmp_ne (pc := 270) (tgt := 277) hx hb dX8_read_270 (by decide) (by omega) (by omega) (fun c_270 => ?_) (fun c_270 => ?_)
              · refine lv_iconst (pc := 277) (v := zI 3) hx hb dX8_read_277 rfl ?_
                refine zr_put (pc := 278) S hK (hP 0 (by decide)) rfl i_X8 tyX8 tyX8_ok nmX8 9 (by decide) (List.mem_of_getElem? (i := 4) rfl) rfl rfl rfl (Nat.le_of_ble_eq_true rfl) hS (hAin 0 (by decide)) dX8_read_278 (fun H locs hO hz hk hS => ?_)
                have hP := zW.put hP hJ 0 (by decide) hO hk (mC_0_5 3)
                rw [rX_s5] at hP
                refine lv_goto (pc := 281) (tgt := 301) hx hb dX8_read_281 (by decide) ?_
                exact W.vret hx hb hr (fun tz ht hW => ⟨⟨(), rfl, trivial, by dsimp only; rw [ht]; exact (by obtain ⟨e1, e2, e2b, e3⟩ := read_n hTS hb_169 hl1 hb_186 hv; show zW D am 5 (mC cI am (rX μ (tE tx tl p) (tS tx tl p) (rK tx tl p) (rV tx tl p) w)) H; rw [e1, hTS, e2b ⟨by omega, by omega⟩, e3]; exact hP)⟩, hS.F ht⟩) hS.2.2 dX8_read_301
              · refine lv_iconst (pc := 273) (v := zI 1) hx hb dX8_read_273 rfl ?_
                refine lv_goto (pc := 274) (tgt := 278) hx hb dX8_read_274 (by decide) ?_
                refine zr_put (pc := 278) S hK (hP 0 (by decide)) rfl i_X8 tyX8 tyX8_ok nmX8 9 (by decide) (List.mem_of_getElem? (i := 4) rfl) rfl rfl rfl (Nat.le_of_ble_eq_true rfl) hS (hAin 0 (by decide)) dX8_read_278 (fun H locs hO hz hk hS => ?_)
                have hP := zW.put hP hJ 0 (by decide) hO hk (mC_0_5 1)
                rw [rX_s5] at hP
                refine lv_goto (pc := 281) (tgt := 301) hx hb dX8_read_281 (by decide) ?_
                exact W.vret hx hb hr (fun tz ht hW => ⟨⟨(), rfl, trivial, by dsimp only; rw [ht]; exact (by obtain ⟨e1, e2, e2b, e3⟩ := read_n hTS hb_169 hl1 hb_186 hv; show zW D am 5 (mC cI am (rX μ (tE tx tl p) (tS tx tl p) (rK tx tl p) (rV tx tl p) w)) H; rw [e1, hTS, e2 (fun z => by omega), e3]; exact hP)⟩, hS.F ht⟩) hS.2.2 dX8_read_301
        · refine zr_if_eq (pc := 172) (tgt := 284) hx hb dX8_read_172 (by decide) (by decide) (fun _ => ?_) (fun z => absurd z (by decide))
          refine lv_aload_n (pc := 284) hx hb dX8_read_284 rfl (lv_at hl 0 rfl) ?_
          refine zr_vi (pc := 285) (As := []) (rest := []) S (ct_X8_here l D cI cT am (rX μ q q t 0 w) tl tx q (rX_2.trans h2) (fun i i0 i1 => (congrFun (rX_k (by decide)) i).trans (h4 i i0 i1)) rX_3 (by omega) (by omega) (by omega) (by omega)) (cwV 0 hts gX8_read_X8_here rfl rfl rfl (by decide +kernel) ⟨Nat.le_of_ble_eq_true rfl, Nat.le_of_ble_eq_true rfl⟩) zs0 hK hP (zr_recv hK (hP 0 (by decide)) rfl) rfl hl.1 rfl (Nat.le_of_ble_eq_true rfl) dX8_read_285 ⟨Nat.le_of_ble_eq_true rfl, Nat.le_of_ble_eq_true rfl⟩ (fun r_285 hr_285 => ?_)
          subst hr_285
          have hh_285 := hr_bd (q := q) htx (by omega)
          refine zr_if_lt (pc := 288) (tgt := 301) hx hb dX8_read_288 (by decide) (by omega) (fun c_288 => ?_) (fun c_288 => ?_)
          · exact W.vret hx hb hr (fun tz ht hW => ⟨⟨(), rfl, trivial, by dsimp only; rw [ht]; exact (by obtain ⟨e1, e1b, e2, e3⟩ := read_o hTS hb_75 hb_169 (fun z => (htx q (by omega) z).1) h_t; show zW D am 5 (mC cI am (rX μ (tE tx tl p) (tS tx tl p) (rK tx tl p) (rV tx tl p) w)) H; rw [e1b (by omega), hTS, e2, e3]; exact hP)⟩, hS.F ht⟩) hS.2.2 dX8_read_301
          · refine lv_aload_n (pc := 291) hx hb dX8_read_291 rfl (lv_at hl 0 rfl) ?_
            refine lv_dup (pc := 292) hx hb dX8_read_292 rfl ?_
            refine zr_get (pc := 293) S hK (hP 0 (by decide)) rfl i_X8 7 (by decide) (List.mem_of_getElem? (i := 1) rfl) rfl dX8_read_293 ?_
            refine zr_top (b := q) rX_3 ?_
            refine lv_iconst (pc := 296) (v := zI 1) hx hb dX8_read_296 rfl ?_
            refine zr_iadd (pc := 297) (d := q + 1) hx hb dX8_read_297 rfl ?_
            refine zr_put (pc := 298) S hK (hP 0 (by decide)) rfl i_X8 tyX8 tyX8_ok nmX8 7 (by decide) (List.mem_of_getElem? (i := 1) rfl) rfl rfl rfl (Nat.le_of_ble_eq_true rfl) hS (hAin 0 (by decide)) dX8_read_298 (fun H locs hO hz hk hS => ?_)
            have hP := zW.put hP hJ 0 (by decide) hO hk (mC_0_3 (q + 1))
            rw [rX_s3] at hP
            exact W.vret hx hb hr (fun tz ht hW => ⟨⟨(), rfl, trivial, by dsimp only; rw [ht]; exact (by obtain ⟨e1, e1b, e2, e3⟩ := read_o hTS hb_75 hb_169 (fun z => (htx q (by omega) z).1) h_t; show zW D am 5 (mC cI am (rX μ (tE tx tl p) (tS tx tl p) (rK tx tl p) (rV tx tl p) w)) H; rw [e1 (by omega), hTS, e2, e3]; exact hP)⟩, hS.F ht⟩) hS.2.2 dX8_read_301
    · skip
      refine lv_aload_n (pc := 35) hx hb dX8_read_35 rfl (lv_at hl 0 rfl) ?_
      refine lv_aload_n (pc := 36) hx hb dX8_read_36 rfl (lv_at hl 0 rfl) ?_
      refine zr_vi (pc := 37) (As := []) (rest := [.ref (am 0)]) S (ct_X8_here l D cI cT am (rX μ q q c 0 w) tl tx q (rX_2.trans h2) (fun i i0 i1 => (congrFun (rX_k (by decide)) i).trans (h4 i i0 i1)) rX_3 (by omega) (by omega) (by omega) (by omega)) (cwV 0 hts gX8_read_X8_here rfl rfl rfl (by decide +kernel) ⟨Nat.le_of_ble_eq_true rfl, Nat.le_of_ble_eq_true rfl⟩) zs0 hK hP (zr_recv hK (hP 0 (by decide)) rfl) rfl hl.1 rfl (Nat.le_of_ble_eq_true rfl) dX8_read_37 ⟨Nat.le_of_ble_eq_true rfl, Nat.le_of_ble_eq_true rfl⟩ (fun r_37 hr_37 => ?_)
      subst hr_37
      have hh_37 := hr_bd (q := q) htx (by omega)
      refine zr_if_ge (pc := 40) (tgt := 47) hx hb dX8_read_40 (by decide) (by omega) (fun c_40 => ?_) (fun c_40 => ?_)
      · refine lv_aload_n (pc := 47) hx hb dX8_read_47 rfl (lv_at hl 0 rfl) ?_
        refine zr_vi (pc := 48) (As := []) (rest := [.ref (am 0)]) S (ct_X8_here l D cI cT am (rX μ q q c 0 w) tl tx q (rX_2.trans h2) (fun i i0 i1 => (congrFun (rX_k (by decide)) i).trans (h4 i i0 i1)) rX_3 (by omega) (by omega) (by omega) (by omega)) (cwV 0 hts gX8_read_X8_here rfl rfl rfl (by decide +kernel) ⟨Nat.le_of_ble_eq_true rfl, Nat.le_of_ble_eq_true rfl⟩) zs0 hK hP (zr_recv hK (hP 0 (by decide)) rfl) rfl hl.1 rfl (Nat.le_of_ble_eq_true rfl) dX8_read_48 ⟨Nat.le_of_ble_eq_true rfl, Nat.le_of_ble_eq_true rfl⟩ (fun r_48 hr_48 => ?_)
        subst hr_48
        have hh_48 := hr_bd (q := q) htx (by omega)
        refine lv_bipush (pc := 51) (v := zI 59) hx hb dX8_read_51 zc_bipush_59 ?_
        refine zr_icmp_ne (pc := 53) (tgt := 60) hx hb dX8_read_53 (by decide) (by omega) (by decide) (fun c_53 => ?_) (fun c_53 => ?_)
        · refine lv_iconst (pc := 60) (v := zI 3) hx hb dX8_read_60 rfl ?_
          exact J_61 (3) (by omega) ls (lv_sub hl [0] rfl)
        · refine lv_iconst (pc := 56) (v := zI 2) hx hb dX8_read_56 rfl ?_
          refine lv_goto (pc := 57) (tgt := 61) hx hb dX8_read_57 (by decide) ?_
          exact J_61 (2) (by omega) ls (lv_sub hl [0] rfl)
      · refine lv_iconst (pc := 43) (v := zI 4) hx hb dX8_read_43 rfl ?_
        refine lv_goto (pc := 44) (tgt := 61) hx hb dX8_read_44 (by decide) ?_
        exact J_61 (4) (by omega) ls (lv_sub hl [0] rfl)
  · refine lv_aload_n (pc := 9) hx hb dX8_read_9 rfl (lv_at hl 0 rfl) ?_
    refine lv_dup (pc := 10) hx hb dX8_read_10 rfl ?_
    refine zr_get (pc := 11) S hK (hP 0 (by decide)) rfl i_X8 7 (by decide) (List.mem_of_getElem? (i := 1) rfl) rfl dX8_read_11 ?_
    refine zr_top (b := q) rX_3 ?_
    refine lv_iconst (pc := 14) (v := zI 1) hx hb dX8_read_14 rfl ?_
    refine zr_iadd (pc := 15) (d := q + 1) hx hb dX8_read_15 rfl ?_
    refine zr_put (pc := 16) S hK (hP 0 (by decide)) rfl i_X8 tyX8 tyX8_ok nmX8 7 (by decide) (List.mem_of_getElem? (i := 1) rfl) rfl rfl rfl (Nat.le_of_ble_eq_true rfl) hS (hAin 0 (by decide)) dX8_read_16 (fun H locs hO hz hk hS => ?_)
    have hP := zW.put hP hJ 0 (by decide) hO hk (mC_0_3 (q + 1))
    rw [rX_s3] at hP
    refine lv_goto (pc := 19) (tgt := 0) hx hb dX8_read_19 (by decide) ?_
    exact ih_0 (q + 1) H locs (⟨by rcases hr_cases tx tl q with z | z <;> omega, fa_q hs (fun z => z (by rcases hr_cases tx tl q with z | z <;> omega)), hP⟩) hS (by rcases hr_cases tx tl q with z | z <;> omega) ls (lv_sub hl [0] rfl)
set_option maxHeartbeats 4000000 in
set_option maxRecDepth 100000 in
theorem ct_X8_take (l : Launch) (D : va_G) (cI cT : ClassId) (sz : Nat) (am : Nat → Nat) (μ : Nat → Int → Int) (tl : Int) (tx : Int → Int) (h2 : μ 0 2 = tl) (h4 : ∀ i : Int, 0 ≤ i → i < tl → μ 4 i = tx i) (hJ : zJ am 5) (t0 : 0 ≤ tl) (t1 : tl ≤ 120) (htx : ∀ i : Int, 0 ≤ i → i < tl → 1 ≤ tx i ∧ tx i ≤ 255) (q w bb : Int) (q0 : 0 ≤ q) (q1 : q ≤ tl) (hw : w = 0 ∨ w = 1) (hbb : bb = 0 ∨ bb = 1) : zMv l yX8_take wsX8_take ({ frames := 2, cells := 0, slots := 0, locals := 45 }) D cI cT [.ref (am 0), .int (zI (bb))] sz (fun _ H => zW D am 5 (mC cI am (rM tx tl μ q w)) H) (fun H => ∃ (q' w' : Int), ((w = 0 ∧ bb = 1 ∧ w' = 0 ∧ q' = tE tx tl q) ∨ (¬ (w = 0 ∧ bb = 1) ∧ w' = 1 ∧ q' = q)) ∧ zW D am 5 (mC cI am (rM tx tl μ q' w')) H) (zR am 5 sz) := by
  refine Met.ofW (cc := cX8_take) (maxL := 2) (ret := none) (by decide) rfl ?_
  intro p_ e_ s m_ args below meth c_ s₁ B hml hv
  obtain ⟨rfl, hsz, hK, hF⟩ := hv
  have hx := B.exec
  have hb := B.bytes
  have hr := B.returns
  have hts := atoms_spec (ws := wsX8_take) B.pre
  have hown : s.vm.findClass RX8 = some m_.cls := findClass_of_methodNamed B.named
  have hlocks := B.notSynchronized
  have S : CallFix p_ m_ c_ cX8_take 2 s _ wsX8_take RX8 := ⟨hx, hb, hml, hown, hts⟩
  have i_X8 : ∀ w ∈ u_ws RX8 TX8 12, w ∈ wsX8_take := fun _ h => List.mem_cons_of_mem _ (List.mem_append_right _ h)
  subst hsz
  generalize hAe : (zR am 5 s.heap.size) = A
  have hAn : ∀ q : Nat, s.heap.size ≤ q → A q := fun q h => by rw [← hAe]; exact Or.inr h
  obtain ⟨H, hHe⟩ : ∃ H : Heap, H = s.heap := ⟨_, rfl⟩
  rw [← hHe] at hF ⊢
  have hS : va_S A s.heap H [] := by rw [hHe]; exact va_S.rf
  have hP := hF
  have hAin : ∀ k : Nat, k < 5 → A (am k) := fun k hk => by rw [← hAe]; exact Or.inl ⟨k, hk, rfl⟩
  have hrk := rK_bd tx tl q
  have htb := tE_bd (tx := tx) q0 q1
  have hrv := rV_bd (tx := tx) q0 q1
  have hl := lv_entry ([.ref (am 0), .int (zI (bb))]) (n := 2) (Nat.le_of_ble_eq_true rfl)
  rw [lg_entry_eq]
  generalize (lg_sl ([.ref (am 0), .int (zI (bb))]) ++ List.replicate (2 - (lg_sl ([.ref (am 0), .int (zI (bb))])).length) Slot.unset).toArray = ls at hl ⊢
  have hl : lv_has ls 2 [(0, .ref (am 0)), (1, .int (zI (bb)))] := hl
  refine lv_aload_n (pc := 0) hx hb dX8_take_0 rfl (lv_at hl 0 rfl) ?_
  refine lv_aload_n (pc := 1) hx hb dX8_take_1 rfl (lv_at hl 0 rfl) ?_
  refine zr_get (pc := 2) S hK (hP 0 (by decide)) rfl i_X8 11 (by decide) (List.mem_of_getElem? (i := 1) rfl) rfl dX8_take_2 ?_
  refine zr_top (b := w) rX_7 ?_
  refine zr_if_ne (pc := 5) (tgt := 12) hx hb dX8_take_5 (by decide) (by omega) (fun c_5 => ?_) (fun c_5 => ?_)
  · refine lv_iconst (pc := 12) (v := zI 1) hx hb dX8_take_12 rfl ?_
    refine lv_goto (pc := 13) (tgt := 17) hx hb dX8_take_13 (by decide) ?_
    refine zr_put (pc := 17) S hK (hP 0 (by decide)) rfl i_X8 tyX8 tyX8_ok nmX8 11 (by decide) (List.mem_of_getElem? (i := 1) rfl) rfl rfl rfl (Nat.le_of_ble_eq_true rfl) hS (hAin 0 (by decide)) dX8_take_17 (fun H locs hO hz hk hS => ?_)
    have hP := zW.put hP hJ 0 (by decide) hO hk (mC_0_7 1)
    rw [rX_s7] at hP
    refine lv_aload_n (pc := 20) hx hb dX8_take_20 rfl (lv_at hl 0 rfl) ?_
    refine zr_get (pc := 21) S hK (hP 0 (by decide)) rfl i_X8 11 (by decide) (List.mem_of_getElem? (i := 1) rfl) rfl dX8_take_21 ?_
    refine zr_top (b := 1) rX_7 ?_
    refine zr_if_ne (pc := 24) (tgt := 31) hx hb dX8_take_24 (by decide) (by decide) (fun _ => ?_) (fun z => absurd z (by decide))
    exact W.vret hx hb hr (fun tz ht hW => ⟨⟨(), rfl, trivial, by dsimp only; rw [ht]; exact ⟨q, 1, Or.inr ⟨by omega, rfl, rfl⟩, hP⟩⟩, hS.F ht⟩) hS.2.2 dX8_take_31
  · refine lv_iload_n (pc := 8) hx hb dX8_take_8 rfl (lv_at hl 1 rfl) ?_
    refine zr_if_ne (pc := 9) (tgt := 16) hx hb dX8_take_9 (by decide) (by omega) (fun c_9 => ?_) (fun c_9 => ?_)
    · refine lv_iconst (pc := 16) (v := zI 0) hx hb dX8_take_16 rfl ?_
      refine zr_put (pc := 17) S hK (hP 0 (by decide)) rfl i_X8 tyX8 tyX8_ok nmX8 11 (by decide) (List.mem_of_getElem? (i := 1) rfl) rfl rfl rfl (Nat.le_of_ble_eq_true rfl) hS (hAin 0 (by decide)) dX8_take_17 (fun H locs hO hz hk hS => ?_)
      have hP := zW.put hP hJ 0 (by decide) hO hk (mC_0_7 0)
      rw [rX_s7] at hP
      refine lv_aload_n (pc := 20) hx hb dX8_take_20 rfl (lv_at hl 0 rfl) ?_
      refine zr_get (pc := 21) S hK (hP 0 (by decide)) rfl i_X8 11 (by decide) (List.mem_of_getElem? (i := 1) rfl) rfl dX8_take_21 ?_
      refine zr_top (b := 0) rX_7 ?_
      refine zr_if_ne (pc := 24) (tgt := 31) hx hb dX8_take_24 (by decide) (by decide) (fun z => absurd z (by decide)) (fun _ => ?_)
      refine lv_aload_n (pc := 27) hx hb dX8_take_27 rfl (lv_at hl 0 rfl) ?_
      refine zr_vwv (pc := 28) (As := []) (rest := []) S (ct_X8_read l D cI cT H.size am μ tl tx h2 h4 hJ t0 t1 htx (tE tx tl q) (tS tx tl q) (rK tx tl q) (rV tx tl q) 0 (by omega) (by omega)) (cwV 0 hts gX8_take_X8_read rfl rfl rfl (by decide +kernel) ⟨Nat.le_of_ble_eq_true rfl, Nat.le_of_ble_eq_true rfl⟩) zs0 hK hP (zr_recv hK (hP 0 (by decide)) rfl) hS (fun q h => h.elim (fun ⟨k, k0, e⟩ => by rw [e]; exact hAin k k0) (fun z => hAn q (Nat.le_trans hS.1 z))) rfl hl.1 rfl (Nat.le_of_ble_eq_true rfl) dX8_take_28 ⟨Nat.le_of_ble_eq_true rfl, Nat.le_of_ble_eq_true rfl⟩ (fun H locs hG hz hk hS => ?_)
      have hP := hG
      exact W.vret hx hb hr (fun tz ht hW => ⟨⟨(), rfl, trivial, by dsimp only; rw [ht]; exact ⟨tE tx tl q, 0, Or.inl ⟨by omega, by omega, rfl, rfl⟩, hP⟩⟩, hS.F ht⟩) hS.2.2 dX8_take_31
    · refine lv_iconst (pc := 12) (v := zI 1) hx hb dX8_take_12 rfl ?_
      refine lv_goto (pc := 13) (tgt := 17) hx hb dX8_take_13 (by decide) ?_
      refine zr_put (pc := 17) S hK (hP 0 (by decide)) rfl i_X8 tyX8 tyX8_ok nmX8 11 (by decide) (List.mem_of_getElem? (i := 1) rfl) rfl rfl rfl (Nat.le_of_ble_eq_true rfl) hS (hAin 0 (by decide)) dX8_take_17 (fun H locs hO hz hk hS => ?_)
      have hP := zW.put hP hJ 0 (by decide) hO hk (mC_0_7 1)
      rw [rX_s7] at hP
      refine lv_aload_n (pc := 20) hx hb dX8_take_20 rfl (lv_at hl 0 rfl) ?_
      refine zr_get (pc := 21) S hK (hP 0 (by decide)) rfl i_X8 11 (by decide) (List.mem_of_getElem? (i := 1) rfl) rfl dX8_take_21 ?_
      refine zr_top (b := 1) rX_7 ?_
      refine zr_if_ne (pc := 24) (tgt := 31) hx hb dX8_take_24 (by decide) (by decide) (fun _ => ?_) (fun z => absurd z (by decide))
      exact W.vret hx hb hr (fun tz ht hW => ⟨⟨(), rfl, trivial, by dsimp only; rw [ht]; exact ⟨q, 1, Or.inr ⟨by omega, rfl, rfl⟩, hP⟩⟩, hS.F ht⟩) hS.2.2 dX8_take_31
set_option maxHeartbeats 4000000 in
set_option maxRecDepth 100000 in
theorem ct_X8_isWord (l : Launch) (D : va_G) (cI cT : ClassId) (am : Nat → Nat) (μ : Nat → Int → Int) (tl : Int) (tx : Int → Int) (q w V : Int) (q0 : 0 ≤ q) (q1 : q ≤ tl) (V0 : 0 ≤ V) (V1 : V ≤ 9000000000) : zMr l yX8_isWord wsX8_isWord ({ frames := 0, cells := 0, slots := 0, locals := 0 }) D cI cT [.ref (am 0), .long (zL (V))] (fun _ H => zW D am 5 (mC cI am (rM tx tl μ q w)) H) (fun r => bz (rK tx tl q = 0 ∧ rV tx tl q = V) r) := by
  refine Met.ofW (cc := cX8_isWord) (maxL := 3) (ret := (some .boolean)) (by decide) rfl ?_
  intro p_ e_ s m_ args below meth c_ s₁ B hml hv
  obtain ⟨rfl, hK, hF⟩ := hv
  have hx := B.exec
  have hb := B.bytes
  have hr := B.returns
  have hts := atoms_spec (ws := wsX8_isWord) B.pre
  have hown : s.vm.findClass RX8 = some m_.cls := findClass_of_methodNamed B.named
  have hlocks := B.notSynchronized
  have S : CallFix p_ m_ c_ cX8_isWord 3 s _ wsX8_isWord RX8 := ⟨hx, hb, hml, hown, hts⟩
  have i_X8 : ∀ w ∈ u_ws RX8 TX8 12, w ∈ wsX8_isWord := fun _ h => List.mem_cons_of_mem _ (List.mem_append_right _ h)
  have hP := hF
  have hrk := rK_bd tx tl q
  have htb := tE_bd (tx := tx) q0 q1
  have hrv := rV_bd (tx := tx) q0 q1
  have hl := lv_entry ([.ref (am 0), .long (zL (V))]) (n := 3) (Nat.le_of_ble_eq_true rfl)
  rw [lg_entry_eq]
  generalize (lg_sl ([.ref (am 0), .long (zL (V))]) ++ List.replicate (3 - (lg_sl ([.ref (am 0), .long (zL (V))])).length) Slot.unset).toArray = ls at hl ⊢
  have hl : lv_has ls 3 [(0, .ref (am 0)), (1, .long (zL (V)))] := hl
  refine lv_aload_n (pc := 0) hx hb dX8_isWord_0 rfl (lv_at hl 0 rfl) ?_
  refine zr_get (pc := 1) S hK (hP 0 (by decide)) rfl i_X8 9 (by decide) (List.mem_of_getElem? (i := 1) rfl) rfl dX8_isWord_1 ?_
  refine zr_top (b := rK tx tl q) rX_5 ?_
  refine zr_if_ne (pc := 4) (tgt := 20) hx hb dX8_isWord_4 (by decide) (by omega) (fun c_4 => ?_) (fun c_4 => ?_)
  · refine lv_iconst (pc := 20) (v := zI 0) hx hb dX8_isWord_20 rfl ?_
    exact W.zret (ty := .boolean) (v := zI (0)) hx hb hr (by first | rfl | decide) (fun tz ht hW => ⟨_, rfl, bz_f (fun z => by omega), ht⟩) (fun _ h => by cases h) dX8_isWord_21
  · refine lv_aload_n (pc := 7) hx hb dX8_isWord_7 rfl (lv_at hl 0 rfl) ?_
    refine zr_get (pc := 8) S hK (hP 0 (by decide)) rfl i_X8 10 (by decide) (List.mem_of_getElem? (i := 2) rfl) rfl dX8_isWord_8 ?_
    refine zr_topl (b := rV tx tl q) rX_6 ?_
    refine lv_lload_n (pc := 11) hx hb dX8_isWord_11 rfl (lv_at hl 1 rfl) ?_
    refine zr_lcmp_ne (pc := 12) (tgt := 20) hx hb dX8_isWord_12 dX8_isWord_13 (by decide) (by omega) (by omega) (fun c_13 => ?_) (fun c_13 => ?_)
    · refine lv_iconst (pc := 20) (v := zI 0) hx hb dX8_isWord_20 rfl ?_
      exact W.zret (ty := .boolean) (v := zI (0)) hx hb hr (by first | rfl | decide) (fun tz ht hW => ⟨_, rfl, bz_f (fun z => by omega), ht⟩) (fun _ h => by cases h) dX8_isWord_21
    · refine lv_iconst (pc := 16) (v := zI 1) hx hb dX8_isWord_16 rfl ?_
      refine lv_goto (pc := 17) (tgt := 21) hx hb dX8_isWord_17 (by decide) ?_
      exact W.zret (ty := .boolean) (v := zI (1)) hx hb hr (by first | rfl | decide) (fun tz ht hW => ⟨_, rfl, bz_t ⟨by omega, by omega⟩, ht⟩) (fun _ h => by cases h) dX8_isWord_21
set_option maxHeartbeats 4000000 in
set_option maxRecDepth 100000 in
theorem ct_X8_takeNumber (l : Launch) (D : va_G) (cI cT : ClassId) (sz : Nat) (am : Nat → Nat) (μ : Nat → Int → Int) (tl : Int) (tx : Int → Int) (h2 : μ 0 2 = tl) (h4 : ∀ i : Int, 0 ≤ i → i < tl → μ 4 i = tx i) (hJ : zJ am 5) (t0 : 0 ≤ tl) (t1 : tl ≤ 120) (htx : ∀ i : Int, 0 ≤ i → i < tl → 1 ≤ tx i ∧ tx i ≤ 255) (q w lo hi : Int) (q0 : 0 ≤ q) (q1 : q ≤ tl) (hw : w = 0 ∨ w = 1) (l0 : 0 ≤ lo) (l1 : lo ≤ 1000) (u0 : 0 ≤ hi) (u1 : hi < 1000) : zMi l yX8_takeNumber wsX8_takeNumber ({ frames := 3, cells := 0, slots := 0, locals := 66 }) D cI cT [.ref (am 0), .int (zI (lo)), .int (zI (hi))] sz (fun _ H => zW D am 5 (mC cI am (rM tx tl μ q w)) H) (fun rr H => ∃ (q' w' v : Int), rr = zI v ∧ ((w = 0 ∧ tN tx tl q lo hi ∧ w' = 0 ∧ q' = tE tx tl q ∧ v = tV tx tl q) ∨ (¬ (w = 0 ∧ tN tx tl q lo hi) ∧ w' = 1 ∧ q' = q)) ∧ zW D am 5 (mC cI am (rM tx tl μ q' w')) H) (zR am 5 sz) := by
  refine Met.ofW (cc := cX8_takeNumber) (maxL := 4) (ret := (some .int)) (by decide) rfl ?_
  intro p_ e_ s m_ args below meth c_ s₁ B hml hv
  obtain ⟨rfl, hsz, hK, hF⟩ := hv
  have hx := B.exec
  have hb := B.bytes
  have hr := B.returns
  have hts := atoms_spec (ws := wsX8_takeNumber) B.pre
  have hown : s.vm.findClass RX8 = some m_.cls := findClass_of_methodNamed B.named
  have hlocks := B.notSynchronized
  have S : CallFix p_ m_ c_ cX8_takeNumber 4 s _ wsX8_takeNumber RX8 := ⟨hx, hb, hml, hown, hts⟩
  have i_X8 : ∀ w ∈ u_ws RX8 TX8 12, w ∈ wsX8_takeNumber := fun _ h => List.mem_cons_of_mem _ (List.mem_append_right _ h)
  subst hsz
  generalize hAe : (zR am 5 s.heap.size) = A
  have hAn : ∀ q : Nat, s.heap.size ≤ q → A q := fun q h => by rw [← hAe]; exact Or.inr h
  obtain ⟨H, hHe⟩ : ∃ H : Heap, H = s.heap := ⟨_, rfl⟩
  rw [← hHe] at hF ⊢
  have hS : va_S A s.heap H [] := by rw [hHe]; exact va_S.rf
  have hP := hF
  have hAin : ∀ k : Nat, k < 5 → A (am k) := fun k hk => by rw [← hAe]; exact Or.inl ⟨k, hk, rfl⟩
  have hrk := rK_bd tx tl q
  have htb := tE_bd (tx := tx) q0 q1
  have hrv := rV_bd (tx := tx) q0 q1
  have hrN := rN (tx := tx) (lo := lo) (hi := hi) q0 q1 l0 u1
  have hl := lv_entry ([.ref (am 0), .int (zI (lo)), .int (zI (hi))]) (n := 4) (Nat.le_of_ble_eq_true rfl)
  rw [lg_entry_eq]
  generalize (lg_sl ([.ref (am 0), .int (zI (lo)), .int (zI (hi))]) ++ List.replicate (4 - (lg_sl ([.ref (am 0), .int (zI (lo)), .int (zI (hi))])).length) Slot.unset).toArray = ls at hl ⊢
  have hl : lv_has ls 4 [(0, .ref (am 0)), (1, .int (zI (lo))), (2, .int (zI (hi)))] := hl
  refine lv_aload_n (pc := 0) hx hb dX8_takeNumber_0 rfl (lv_at hl 0 rfl) ?_
  refine zr_get (pc := 1) S hK (hP 0 (by decide)) rfl i_X8 10 (by decide) (List.mem_of_getElem? (i := 1) rfl) rfl dX8_takeNumber_1 ?_
  refine zr_topl (b := rV tx tl q) rX_6 ?_
  refine zr_l2iw (pc := 4) hx hb dX8_takeNumber_4 ?_
  refine lv_istore_n (pc := 5) (lv' := [(3, .int (zI (rV tx tl q))), (0, .ref (am 0)), (1, .int (zI (lo))), (2, .int (zI (hi)))]) hx hb dX8_takeNumber_5 rfl hl (by decide) rfl (fun ls hl => ?_)
  refine lv_aload_n (pc := 6) hx hb dX8_takeNumber_6 rfl (lv_at hl 1 rfl) ?_
  refine lv_aload_n (pc := 7) hx hb dX8_takeNumber_7 rfl (lv_at hl 1 rfl) ?_
  refine zr_get (pc := 8) S hK (hP 0 (by decide)) rfl i_X8 9 (by decide) (List.mem_of_getElem? (i := 2) rfl) rfl dX8_takeNumber_8 ?_
  refine zr_top (b := rK tx tl q) rX_5 ?_
  refine lv_iconst (pc := 11) (v := zI 1) hx hb dX8_takeNumber_11 rfl ?_
  refine zr_icmp_ne (pc := 12) (tgt := 33) hx hb dX8_takeNumber_12 (by decide) (by omega) (by decide) (fun c_12 => ?_) (fun c_12 => ?_)
  · refine lv_iconst (pc := 33) (v := zI 0) hx hb dX8_takeNumber_33 rfl ?_
    refine zr_vwv (pc := 34) (As := [.int (zI (0))]) (rest := []) S (ct_X8_take l D cI cT H.size am μ tl tx h2 h4 hJ t0 t1 htx q w 0 (by omega) (by omega) (by omega) (by omega)) (cwV 1 hts gX8_takeNumber_X8_take rfl rfl rfl (by decide +kernel) ⟨Nat.le_of_ble_eq_true rfl, Nat.le_of_ble_eq_true rfl⟩) zs0 hK hP (zr_recv hK (hP 0 (by decide)) rfl) hS (fun q h => h.elim (fun ⟨k, k0, e⟩ => by rw [e]; exact hAin k k0) (fun z => hAn q (Nat.le_trans hS.1 z))) rfl hl.1 rfl (Nat.le_of_ble_eq_true rfl) dX8_takeNumber_34 ⟨Nat.le_of_ble_eq_true rfl, Nat.le_of_ble_eq_true rfl⟩ (fun H locs hG hz hk hS => ?_)
    obtain ⟨q1, w1, hc1, hP⟩ := hG
    obtain ⟨hw1, hq1, hi1⟩ := tk_b (tx := tx) (by omega) (by omega) hc1
    refine lv_iload_n (pc := 37) hx hb dX8_takeNumber_37 rfl (lv_at hl 0 rfl) ?_
    exact W.iret (v := zI (rV tx tl q)) hx hb hr (fun tz ht hW => ⟨⟨zI (rV tx tl q), zI (rV tx tl q), rfl, rfl, by dsimp only; rw [ht]; exact ⟨_, _, _, rfl, (by rcases hc1 with ⟨a, y, b, c⟩ | ⟨a, b, c⟩ <;> first | exact absurd y (by decide) | exact Or.inr ⟨fun z => by have y := hrN.1.mpr z.2; first | exact c_12 y.1 | exact hb_23 y.2, b, c⟩), hP⟩⟩, hS.F ht⟩) hS.2.2 dX8_takeNumber_38
  · refine lv_aload_n (pc := 15) hx hb dX8_takeNumber_15 rfl (lv_at hl 1 rfl) ?_
    refine zr_get (pc := 16) S hK (hP 0 (by decide)) rfl i_X8 10 (by decide) (List.mem_of_getElem? (i := 1) rfl) rfl dX8_takeNumber_16 ?_
    refine zr_topl (b := rV tx tl q) rX_6 ?_
    refine lv_iload_n (pc := 19) hx hb dX8_takeNumber_19 rfl (lv_at hl 2 rfl) ?_
    refine zr_i2l (pc := 20) hx hb dX8_takeNumber_20 (by omega) ?_
    refine lv_iload_n (pc := 21) hx hb dX8_takeNumber_21 rfl (lv_at hl 3 rfl) ?_
    refine zr_i2l (pc := 22) hx hb dX8_takeNumber_22 (by omega) ?_
    refine zr_si (pc := 23) (As := [.long (zL (rV tx tl q)), .long (zL (lo)), .long (zL (hi))]) (rest := [.ref (am 0)]) S (ct_X8_in l D cI cT (rV tx tl q) lo hi (by omega) (by omega) (by omega)) (va_cwS 3 hts gX8_takeNumber_X8_in rfl rfl rfl (by decide +kernel) ⟨Nat.le_of_ble_eq_true rfl, Nat.le_of_ble_eq_true rfl⟩) zs0 hK trivial rfl hl.1 rfl (Nat.le_of_ble_eq_true rfl) dX8_takeNumber_23 ⟨Nat.le_of_ble_eq_true rfl, Nat.le_of_ble_eq_true rfl⟩ (fun r_23 hr_23 => ?_)
    rcases hr_23 with ⟨hb_23, rfl⟩ | ⟨hb_23, rfl⟩
    · refine zr_if_eq (pc := 26) (tgt := 33) hx hb dX8_takeNumber_26 (by decide) (by decide) (fun z => absurd z (by decide)) (fun _ => ?_)
      refine lv_iconst (pc := 29) (v := zI 1) hx hb dX8_takeNumber_29 rfl ?_
      refine lv_goto (pc := 30) (tgt := 34) hx hb dX8_takeNumber_30 (by decide) ?_
      refine zr_vwv (pc := 34) (As := [.int (zI (1))]) (rest := []) S (ct_X8_take l D cI cT H.size am μ tl tx h2 h4 hJ t0 t1 htx q w 1 (by omega) (by omega) (by omega) (by omega)) (cwV 1 hts gX8_takeNumber_X8_take rfl rfl rfl (by decide +kernel) ⟨Nat.le_of_ble_eq_true rfl, Nat.le_of_ble_eq_true rfl⟩) zs0 hK hP (zr_recv hK (hP 0 (by decide)) rfl) hS (fun q h => h.elim (fun ⟨k, k0, e⟩ => by rw [e]; exact hAin k k0) (fun z => hAn q (Nat.le_trans hS.1 z))) rfl hl.1 rfl (Nat.le_of_ble_eq_true rfl) dX8_takeNumber_34 ⟨Nat.le_of_ble_eq_true rfl, Nat.le_of_ble_eq_true rfl⟩ (fun H locs hG hz hk hS => ?_)
      obtain ⟨q2, w2, hc2, hP⟩ := hG
      obtain ⟨hw2, hq2, hi2⟩ := tk_b (tx := tx) (by omega) (by omega) hc2
      refine lv_iload_n (pc := 37) hx hb dX8_takeNumber_37 rfl (lv_at hl 0 rfl) ?_
      exact W.iret (v := zI (rV tx tl q)) hx hb hr (fun tz ht hW => ⟨⟨zI (rV tx tl q), zI (rV tx tl q), rfl, rfl, by dsimp only; rw [ht]; exact ⟨_, _, _, rfl, (by rcases hc2 with ⟨a, _, b, c⟩ | ⟨a, b, c⟩ <;> first | exact Or.inl ⟨a, hrN.1.mp ⟨c_12, hb_23.1, hb_23.2⟩, b, c, hrN.2 (hrN.1.mp ⟨c_12, hb_23.1, hb_23.2⟩)⟩ | exact Or.inr ⟨fun z => a ⟨z.1, rfl⟩, b, c⟩), hP⟩⟩, hS.F ht⟩) hS.2.2 dX8_takeNumber_38
    · refine zr_if_eq (pc := 26) (tgt := 33) hx hb dX8_takeNumber_26 (by decide) (by decide) (fun _ => ?_) (fun z => absurd z (by decide))
      refine lv_iconst (pc := 33) (v := zI 0) hx hb dX8_takeNumber_33 rfl ?_
      refine zr_vwv (pc := 34) (As := [.int (zI (0))]) (rest := []) S (ct_X8_take l D cI cT H.size am μ tl tx h2 h4 hJ t0 t1 htx q w 0 (by omega) (by omega) (by omega) (by omega)) (cwV 1 hts gX8_takeNumber_X8_take rfl rfl rfl (by decide +kernel) ⟨Nat.le_of_ble_eq_true rfl, Nat.le_of_ble_eq_true rfl⟩) zs0 hK hP (zr_recv hK (hP 0 (by decide)) rfl) hS (fun q h => h.elim (fun ⟨k, k0, e⟩ => by rw [e]; exact hAin k k0) (fun z => hAn q (Nat.le_trans hS.1 z))) rfl hl.1 rfl (Nat.le_of_ble_eq_true rfl) dX8_takeNumber_34 ⟨Nat.le_of_ble_eq_true rfl, Nat.le_of_ble_eq_true rfl⟩ (fun H locs hG hz hk hS => ?_)
      obtain ⟨q3, w3, hc3, hP⟩ := hG
      obtain ⟨hw3, hq3, hi3⟩ := tk_b (tx := tx) (by omega) (by omega) hc3
      refine lv_iload_n (pc := 37) hx hb dX8_takeNumber_37 rfl (lv_at hl 0 rfl) ?_
      exact W.iret (v := zI (rV tx tl q)) hx hb hr (fun tz ht hW => ⟨⟨zI (rV tx tl q), zI (rV tx tl q), rfl, rfl, by dsimp only; rw [ht]; exact ⟨_, _, _, rfl, (by rcases hc3 with ⟨a, y, b, c⟩ | ⟨a, b, c⟩ <;> first | exact absurd y (by decide) | exact Or.inr ⟨fun z => by have y := hrN.1.mpr z.2; first | exact c_12 y.1 | exact hb_23 y.2, b, c⟩), hP⟩⟩, hS.F ht⟩) hS.2.2 dX8_takeNumber_38
