set_option maxHeartbeats 4000000 in
set_option maxRecDepth 100000 in
theorem ct_X8_readItem (l : Launch) (D : va_G) (cI cT : ClassId) (sz : Nat) (am : Nat → Nat) (μ : Nat → Int → Int) (tl : Int) (tx : Int → Int) (h2 : μ 0 2 = tl) (h4 : ∀ i : Int, 0 ≤ i → i < tl → μ 4 i = tx i) (hJ : zJ am 5) (t0 : 0 ≤ tl) (t1 : tl ≤ 120) (htx : ∀ i : Int, 0 ≤ i → i < tl → 1 ≤ tx i ∧ tx i ≤ 255) (g : Int → Int) (hg : μ 1 = g) (hI : Inv g) (p : Int) (p0 : 0 ≤ p) (p1 : p ≤ tl) : zMv l yX8_readItem wsX8_readItem ({ frames := 4, cells := 0, slots := 0, locals := 89 }) D cI cT [.ref (am 0)] sz (fun _ H => zW D am 5 (mC cI am (rM tx tl μ p 0)) H) (fun H => (itO tx tl g p ∧ zW D am 5 (mC cI am (rM tx tl (va_up μ 1 (itG tx tl g p)) (itN tx tl p) 0)) H) ∨ (∃ q' : Int, (0 ≤ q' ∧ q' ≤ tl) ∧ itB tx tl g p (tS tx tl q') ∧ zW D am 5 (mC cI am (rM tx tl μ q' 1)) H)) (zR am 5 sz) := by
  refine Met.ofW (cc := cX8_readItem) (maxL := 9) (ret := none) (by decide) rfl ?_
  intro p_ e_ s m_ args below meth c_ s₁ B hml hv
  obtain ⟨rfl, hsz, hK, hF⟩ := hv
  have hx := B.exec
  have hb := B.bytes
  have hr := B.returns
  have hts := atoms_spec (ws := wsX8_readItem) B.pre
  have hown : s.vm.findClass RX8 = some m_.cls := findClass_of_methodNamed B.named
  have hlocks := B.notSynchronized
  have S : CallFix p_ m_ c_ cX8_readItem 9 s _ wsX8_readItem RX8 := ⟨hx, hb, hml, hown, hts⟩
  have i_X8 : ∀ w ∈ u_ws RX8 TX8 12, w ∈ wsX8_readItem := fun _ h => List.mem_cons_of_mem _ (List.mem_append_right _ h)
  subst hsz
  generalize hAe : (zR am 5 s.heap.size) = A
  have hAn : ∀ q : Nat, s.heap.size ≤ q → A q := fun q h => by rw [← hAe]; exact Or.inr h
  obtain ⟨H, hHe⟩ : ∃ H : Heap, H = s.heap := ⟨_, rfl⟩
  rw [← hHe] at hF ⊢
  have hS : va_S A s.heap H [] := by rw [hHe]; exact va_S.rf
  have hP := hF
  have hAin : ∀ k : Nat, k < 5 → A (am k) := fun k hk => by rw [← hAe]; exact Or.inl ⟨k, hk, rfl⟩
  have hnC := iv_nC hI
  have hnA := iv_nA hI
  have hl := lv_entry ([.ref (am 0)]) (n := 9) (Nat.le_of_ble_eq_true rfl)
  rw [lg_entry_eq]
  generalize (lg_sl ([.ref (am 0)]) ++ List.replicate (9 - (lg_sl ([.ref (am 0)])).length) Slot.unset).toArray = ls at hl ⊢
  have hl : lv_has ls 9 [(0, .ref (am 0))] := hl
  refine lv_aload_n (pc := 0) hx hb dX8_readItem_0 rfl (lv_at hl 0 rfl) ?_
  refine zr_ldc2 (pc := 1) (w := 1388001776) hx hb hown (hts _ (List.mem_of_getElem? (i := 1) rfl)) dX8_readItem_1 (by decide +kernel) ?_
  refine zr_vi (pc := 4) (As := [.long (zL (1388001776))]) (rest := []) S (ct_X8_isWord l D cI cT am μ tl tx p 0 1388001776 (by omega) (by omega) (by decide) (by decide)) (cwV 1 hts gX8_readItem_X8_isWord rfl rfl rfl (by decide +kernel) ⟨Nat.le_of_ble_eq_true rfl, Nat.le_of_ble_eq_true rfl⟩) zs0 hK hP (zr_recv hK (hP 0 (by decide)) rfl) rfl hl.1 rfl (Nat.le_of_ble_eq_true rfl) dX8_readItem_4 ⟨Nat.le_of_ble_eq_true rfl, Nat.le_of_ble_eq_true rfl⟩ (fun r_4 hr_4 => ?_)
  rcases hr_4 with ⟨hb_4, rfl⟩ | ⟨hb_4, rfl⟩
  · have hw_4 : tW tx tl p wdC := (rWC (by omega) (by omega)).mp hb_4
    refine lv_istore_n (pc := 7) (lv' := [(1, .int (zI (1))), (0, .ref (am 0))]) hx hb dX8_readItem_7 rfl hl (by decide) rfl (fun ls hl => ?_)
    refine zr_cut1 (nL := 9) (fun (bb : Int) => ((bb = 1 ∧ hdO tx tl g p) ∨ (bb = 0 ∧ ¬ hdO tx tl g p))) (fun (bb : Int) => [(1, .int (zI (1))), (0, .ref (am 0))]) (fun (bb : Int) => [.int (zI (bb)), .ref (am 0)]) (pc2 := 50) ?_ (fun J_50 => ?_)
    · intro bb hinv ls hl
      have hbb := hinv
      have hnN : nN tx tl p = 5 := nN_c hw_4
      refine zr_vwv (pc := 50) (As := [.int (zI (bb))]) (rest := []) S (ct_X8_take l D cI cT H.size am μ tl tx h2 h4 hJ t0 t1 htx p 0 bb (by omega) (by omega) (by omega) (by omega)) (cwV 1 hts gX8_readItem_X8_take rfl rfl rfl (by decide +kernel) ⟨Nat.le_of_ble_eq_true rfl, Nat.le_of_ble_eq_true rfl⟩) zs0 hK hP (zr_recv hK (hP 0 (by decide)) rfl) hS (fun q h => h.elim (fun ⟨k, k0, e⟩ => by rw [e]; exact hAin k k0) (fun z => hAn q (Nat.le_trans hS.1 z))) rfl hl.1 rfl (Nat.le_of_ble_eq_true rfl) dX8_readItem_50 ⟨Nat.le_of_ble_eq_true rfl, Nat.le_of_ble_eq_true rfl⟩ (fun H locs hG hz hk hS => ?_)
      obtain ⟨q4, w4, hc4, hP⟩ := hG
      obtain ⟨hw4, hq4, hi4⟩ := tk_b (tx := tx) (by omega) (by omega) hc4
      have hp4 : Ph tx tl g p 1 q4 w4 := ph_h hc4 hbb
      refine lv_aload_n (pc := 53) hx hb dX8_readItem_53 rfl (lv_at hl 1 rfl) ?_
      refine lv_bipush (pc := 54) (v := zI 40) hx hb dX8_readItem_54 zc_bipush_40 ?_
      refine lv_sipush (pc := 56) (v := zI 200) hx hb dX8_readItem_56 zc_sipush_200 ?_
      refine zr_vwi (pc := 59) (As := [.int (zI (40)), .int (zI (200))]) (rest := []) S (ct_X8_takeNumber l D cI cT H.size am μ tl tx h2 h4 hJ t0 t1 htx q4 w4 40 200 (by omega) (by omega) (by omega) (by decide) (by decide) (by decide) (by decide)) (cwV 2 hts gX8_readItem_X8_takeNumber rfl rfl rfl (by decide +kernel) ⟨Nat.le_of_ble_eq_true rfl, Nat.le_of_ble_eq_true rfl⟩) zs0 hK hP (zr_recv hK (hP 0 (by decide)) rfl) hS (fun q h => h.elim (fun ⟨k, k0, e⟩ => by rw [e]; exact hAin k k0) (fun z => hAn q (Nat.le_trans hS.1 z))) rfl hl.1 rfl (Nat.le_of_ble_eq_true rfl) dX8_readItem_59 ⟨Nat.le_of_ble_eq_true rfl, Nat.le_of_ble_eq_true rfl⟩ (fun r_59 H locs hG hz hk hS => ?_)
      obtain ⟨q5, w5, v5, rfl, hc5, hP⟩ := hG
      obtain ⟨hp5, hv5, hw5, hq5, hz5⟩ := ph_m (k := 1) hp4 (by omega) (by omega) (by decide) (by omega) (by decide) (by decide) hc5
      refine lv_istore_n (pc := 62) (lv' := [(2, .int (zI (v5))), (1, .int (zI (1))), (0, .ref (am 0))]) hx hb dX8_readItem_62 rfl hl (by decide) rfl (fun ls hl => ?_)
      refine lv_aload_n (pc := 63) hx hb dX8_readItem_63 rfl (lv_at hl 2 rfl) ?_
      refine lv_bipush (pc := 64) (v := zI 40) hx hb dX8_readItem_64 zc_bipush_40 ?_
      refine lv_sipush (pc := 66) (v := zI 200) hx hb dX8_readItem_66 zc_sipush_200 ?_
      refine zr_vwi (pc := 69) (As := [.int (zI (40)), .int (zI (200))]) (rest := []) S (ct_X8_takeNumber l D cI cT H.size am μ tl tx h2 h4 hJ t0 t1 htx q5 w5 40 200 (by omega) (by omega) (by omega) (by decide) (by decide) (by decide) (by decide)) (cwV 2 hts gX8_readItem_X8_takeNumber rfl rfl rfl (by decide +kernel) ⟨Nat.le_of_ble_eq_true rfl, Nat.le_of_ble_eq_true rfl⟩) zs0 hK hP (zr_recv hK (hP 0 (by decide)) rfl) hS (fun q h => h.elim (fun ⟨k, k0, e⟩ => by rw [e]; exact hAin k k0) (fun z => hAn q (Nat.le_trans hS.1 z))) rfl hl.1 rfl (Nat.le_of_ble_eq_true rfl) dX8_readItem_69 ⟨Nat.le_of_ble_eq_true rfl, Nat.le_of_ble_eq_true rfl⟩ (fun r_69 H locs hG hz hk hS => ?_)
      obtain ⟨q6, w6, v6, rfl, hc6, hP⟩ := hG
      obtain ⟨hp6, hv6, hw6, hq6, hz6⟩ := ph_m (k := 2) hp5 (by omega) (by omega) (by decide) (by omega) (by decide) (by decide) hc6
      refine lv_istore_n (pc := 72) (lv' := [(3, .int (zI (v6))), (2, .int (zI (v5))), (1, .int (zI (1))), (0, .ref (am 0))]) hx hb dX8_readItem_72 rfl hl (by decide) rfl (fun ls hl => ?_)
      refine lv_aload_n (pc := 73) hx hb dX8_readItem_73 rfl (lv_at hl 3 rfl) ?_
      refine lv_bipush (pc := 74) (v := zI 40) hx hb dX8_readItem_74 zc_bipush_40 ?_
      refine lv_sipush (pc := 76) (v := zI 200) hx hb dX8_readItem_76 zc_sipush_200 ?_
      refine zr_vwi (pc := 79) (As := [.int (zI (40)), .int (zI (200))]) (rest := []) S (ct_X8_takeNumber l D cI cT H.size am μ tl tx h2 h4 hJ t0 t1 htx q6 w6 40 200 (by omega) (by omega) (by omega) (by decide) (by decide) (by decide) (by decide)) (cwV 2 hts gX8_readItem_X8_takeNumber rfl rfl rfl (by decide +kernel) ⟨Nat.le_of_ble_eq_true rfl, Nat.le_of_ble_eq_true rfl⟩) zs0 hK hP (zr_recv hK (hP 0 (by decide)) rfl) hS (fun q h => h.elim (fun ⟨k, k0, e⟩ => by rw [e]; exact hAin k k0) (fun z => hAn q (Nat.le_trans hS.1 z))) rfl hl.1 rfl (Nat.le_of_ble_eq_true rfl) dX8_readItem_79 ⟨Nat.le_of_ble_eq_true rfl, Nat.le_of_ble_eq_true rfl⟩ (fun r_79 H locs hG hz hk hS => ?_)
      obtain ⟨q7, w7, v7, rfl, hc7, hP⟩ := hG
      obtain ⟨hp7, hv7, hw7, hq7, hz7⟩ := ph_m (k := 3) hp6 (by omega) (by omega) (by decide) (by omega) (by decide) (by decide) hc7
      refine lv_istore (pc := 82) (lv' := [(4, .int (zI (v7))), (3, .int (zI (v6))), (2, .int (zI (v5))), (1, .int (zI (1))), (0, .ref (am 0))]) hx hb dX8_readItem_82 hl (by decide) rfl (fun ls hl => ?_)
      refine lv_iload_n (pc := 84) hx hb dX8_readItem_84 rfl (lv_at hl 3 rfl) ?_
      refine zr_if_eq (pc := 85) (tgt := 98) hx hb dX8_readItem_85 (by decide) (by decide) (fun z => absurd z (by decide)) (fun _ => ?_)
      refine lv_aload_n (pc := 88) hx hb dX8_readItem_88 rfl (lv_at hl 4 rfl) ?_
      refine lv_iconst (pc := 89) (v := zI 0) hx hb dX8_readItem_89 rfl ?_
      refine lv_bipush (pc := 90) (v := zI 8) hx hb dX8_readItem_90 zc_bipush_8 ?_
      refine zr_vwi (pc := 92) (As := [.int (zI (0)), .int (zI (8))]) (rest := []) S (ct_X8_takeNumber l D cI cT H.size am μ tl tx h2 h4 hJ t0 t1 htx q7 w7 0 8 (by omega) (by omega) (by omega) (by decide) (by decide) (by decide) (by decide)) (cwV 2 hts gX8_readItem_X8_takeNumber rfl rfl rfl (by decide +kernel) ⟨Nat.le_of_ble_eq_true rfl, Nat.le_of_ble_eq_true rfl⟩) zs0 hK hP (zr_recv hK (hP 0 (by decide)) rfl) hS (fun q h => h.elim (fun ⟨k, k0, e⟩ => by rw [e]; exact hAin k k0) (fun z => hAn q (Nat.le_trans hS.1 z))) rfl hl.1 rfl (Nat.le_of_ble_eq_true rfl) dX8_readItem_92 ⟨Nat.le_of_ble_eq_true rfl, Nat.le_of_ble_eq_true rfl⟩ (fun r_92 H locs hG hz hk hS => ?_)
      obtain ⟨q8, w8, v8, rfl, hc8, hP⟩ := hG
      obtain ⟨hp8, hv8, hw8, hq8, hz8⟩ := ph_m (k := 4) hp7 (by omega) (by omega) (by decide) (by omega) (by decide) (by decide) hc8
      refine lv_goto (pc := 95) (tgt := 99) hx hb dX8_readItem_95 (by decide) ?_
      refine lv_istore (pc := 99) (lv' := [(5, .int (zI (v8))), (4, .int (zI (v7))), (3, .int (zI (v6))), (2, .int (zI (v5))), (1, .int (zI (1))), (0, .ref (am 0))]) hx hb dX8_readItem_99 hl (by decide) rfl (fun ls hl => ?_)
      refine lv_iload_n (pc := 101) hx hb dX8_readItem_101 rfl (lv_at hl 4 rfl) ?_
      refine zr_if_eq (pc := 102) (tgt := 114) hx hb dX8_readItem_102 (by decide) (by decide) (fun z => absurd z (by decide)) (fun _ => ?_)
      refine lv_aload_n (pc := 105) hx hb dX8_readItem_105 rfl (lv_at hl 5 rfl) ?_
      refine lv_iconst (pc := 106) (v := zI 0) hx hb dX8_readItem_106 rfl ?_
      refine lv_iconst (pc := 107) (v := zI 3) hx hb dX8_readItem_107 rfl ?_
      refine zr_vwi (pc := 108) (As := [.int (zI (0)), .int (zI (3))]) (rest := []) S (ct_X8_takeNumber l D cI cT H.size am μ tl tx h2 h4 hJ t0 t1 htx q8 w8 0 3 (by omega) (by omega) (by omega) (by decide) (by decide) (by decide) (by decide)) (cwV 2 hts gX8_readItem_X8_takeNumber rfl rfl rfl (by decide +kernel) ⟨Nat.le_of_ble_eq_true rfl, Nat.le_of_ble_eq_true rfl⟩) zs0 hK hP (zr_recv hK (hP 0 (by decide)) rfl) hS (fun q h => h.elim (fun ⟨k, k0, e⟩ => by rw [e]; exact hAin k k0) (fun z => hAn q (Nat.le_trans hS.1 z))) rfl hl.1 rfl (Nat.le_of_ble_eq_true rfl) dX8_readItem_108 ⟨Nat.le_of_ble_eq_true rfl, Nat.le_of_ble_eq_true rfl⟩ (fun r_108 H locs hG hz hk hS => ?_)
      obtain ⟨q9, w9, v9, rfl, hc9, hP⟩ := hG
      obtain ⟨hp9, hv9, hw9, hq9, hz9⟩ := ph_m (k := 5) hp8 (by omega) (by omega) (by decide) (by omega) (by decide) (by decide) hc9
      refine lv_goto (pc := 111) (tgt := 115) hx hb dX8_readItem_111 (by decide) ?_
      refine lv_istore (pc := 115) (lv' := [(6, .int (zI (v9))), (5, .int (zI (v8))), (4, .int (zI (v7))), (3, .int (zI (v6))), (2, .int (zI (v5))), (1, .int (zI (1))), (0, .ref (am 0))]) hx hb dX8_readItem_115 hl (by decide) rfl (fun ls hl => ?_)
      refine lv_iload_n (pc := 117) hx hb dX8_readItem_117 rfl (lv_at hl 5 rfl) ?_
      refine zr_if_eq (pc := 118) (tgt := 135) hx hb dX8_readItem_118 (by decide) (by decide) (fun z => absurd z (by decide)) (fun _ => ?_)
      refine lv_aload_n (pc := 121) hx hb dX8_readItem_121 rfl (lv_at hl 6 rfl) ?_
      refine zr_ldc2 (pc := 122) (w := 79958) hx hb hown (hts _ (List.mem_of_getElem? (i := 4) rfl)) dX8_readItem_122 (by decide +kernel) ?_
      refine zr_vi (pc := 125) (As := [.long (zL (79958))]) (rest := []) S (ct_X8_isWord l D cI cT am μ tl tx q9 w9 79958 (by omega) (by omega) (by decide) (by decide)) (cwV 1 hts gX8_readItem_X8_isWord rfl rfl rfl (by decide +kernel) ⟨Nat.le_of_ble_eq_true rfl, Nat.le_of_ble_eq_true rfl⟩) zs0 hK hP (zr_recv hK (hP 0 (by decide)) rfl) rfl hl.1 rfl (Nat.le_of_ble_eq_true rfl) dX8_readItem_125 ⟨Nat.le_of_ble_eq_true rfl, Nat.le_of_ble_eq_true rfl⟩ (fun r_125 hr_125 => ?_)
      rcases hr_125 with ⟨hb_125, rfl⟩ | ⟨hb_125, rfl⟩
      · have hw_125 : tW tx tl q9 wdD := (rWD (by omega) (by omega)).mp hb_125
        refine zr_if_eq (pc := 128) (tgt := 135) hx hb dX8_readItem_128 (by decide) (by decide) (fun z => absurd z (by decide)) (fun _ => ?_)
        refine lv_iconst (pc := 131) (v := zI 1) hx hb dX8_readItem_131 rfl ?_
        refine lv_goto (pc := 132) (tgt := 136) hx hb dX8_readItem_132 (by decide) ?_
        refine lv_istore (pc := 136) (lv' := [(7, .int (zI (1))), (6, .int (zI (v9))), (5, .int (zI (v8))), (4, .int (zI (v7))), (3, .int (zI (v6))), (2, .int (zI (v5))), (1, .int (zI (1))), (0, .ref (am 0))]) hx hb dX8_readItem_136 hl (by decide) rfl (fun ls hl => ?_)
        skip
        refine lv_iload (pc := 138) hx hb dX8_readItem_138 (lv_at hl 0 rfl) ?_
        refine zr_if_eq (pc := 140) (tgt := 148) hx hb dX8_readItem_140 (by decide) (by decide) (fun z => absurd z (by decide)) (fun _ => ?_)
        refine lv_aload_n (pc := 143) hx hb dX8_readItem_143 rfl (lv_at hl 7 rfl) ?_
        refine lv_iconst (pc := 144) (v := zI 1) hx hb dX8_readItem_144 rfl ?_
        refine zr_vwv (pc := 145) (As := [.int (zI (1))]) (rest := []) S (ct_X8_take l D cI cT H.size am μ tl tx h2 h4 hJ t0 t1 htx q9 w9 1 (by omega) (by omega) (by omega) (by omega)) (cwV 1 hts gX8_readItem_X8_take rfl rfl rfl (by decide +kernel) ⟨Nat.le_of_ble_eq_true rfl, Nat.le_of_ble_eq_true rfl⟩) zs0 hK hP (zr_recv hK (hP 0 (by decide)) rfl) hS (fun q h => h.elim (fun ⟨k, k0, e⟩ => by rw [e]; exact hAin k k0) (fun z => hAn q (Nat.le_trans hS.1 z))) rfl hl.1 rfl (Nat.le_of_ble_eq_true rfl) dX8_readItem_145 ⟨Nat.le_of_ble_eq_true rfl, Nat.le_of_ble_eq_true rfl⟩ (fun H locs hG hz hk hS => ?_)
        obtain ⟨q10, w10, hc10, hP⟩ := hG
        obtain ⟨hw10, hq10, hi10⟩ := tk_b (tx := tx) (by omega) (by omega) hc10
        obtain ⟨hpe, hdk⟩ := ph_d1 (show Ph tx tl g p (nN tx tl p + 1) _ _ by rw [hnN]; exact hp9) hw_4 hw_125 hc10
        refine lv_aload_n (pc := 148) hx hb dX8_readItem_148 rfl (lv_at hl 7 rfl) ?_
        refine lv_aload_n (pc := 149) hx hb dX8_readItem_149 rfl (lv_at hl 7 rfl) ?_
        refine zr_get (pc := 150) S hK (hP 0 (by decide)) rfl i_X8 9 (by decide) (List.mem_of_getElem? (i := 5) rfl) rfl dX8_readItem_150 ?_
        refine zr_top (b := rK tx tl q10) rX_5 ?_
        have hrk := rK_bd tx tl q10
        refine lv_iconst (pc := 153) (v := zI 2) hx hb dX8_readItem_153 rfl ?_
        refine zr_icmp_ne (pc := 154) (tgt := 161) hx hb dX8_readItem_154 (by decide) (by omega) (by decide) (fun c_154 => ?_) (fun c_154 => ?_)
        · refine lv_iconst (pc := 161) (v := zI 0) hx hb dX8_readItem_161 rfl ?_
          refine zr_vwv (pc := 162) (As := [.int (zI (0))]) (rest := []) S (ct_X8_take l D cI cT H.size am μ tl tx h2 h4 hJ t0 t1 htx q10 w10 0 (by omega) (by omega) (by omega) (by omega)) (cwV 1 hts gX8_readItem_X8_take rfl rfl rfl (by decide +kernel) ⟨Nat.le_of_ble_eq_true rfl, Nat.le_of_ble_eq_true rfl⟩) zs0 hK hP (zr_recv hK (hP 0 (by decide)) rfl) hS (fun q h => h.elim (fun ⟨k, k0, e⟩ => by rw [e]; exact hAin k k0) (fun z => hAn q (Nat.le_trans hS.1 z))) rfl hl.1 rfl (Nat.le_of_ble_eq_true rfl) dX8_readItem_162 ⟨Nat.le_of_ble_eq_true rfl, Nat.le_of_ble_eq_true rfl⟩ (fun H locs hG hz hk hS => ?_)
          obtain ⟨q11, w11, hc11, hP⟩ := hG
          obtain ⟨hw11, hq11, hi11⟩ := tk_b (tx := tx) (by omega) (by omega) hc11
          have hpz := ph_e hpe (by first | exact Or.inl ⟨rfl, rK_fin.mp c_154⟩ | exact Or.inr ⟨rfl, fun z => c_154 (rK_fin.mpr z)⟩) hc11
          refine lv_aload_n (pc := 165) hx hb dX8_readItem_165 rfl (lv_at hl 7 rfl) ?_
          refine zr_get (pc := 166) S hK (hP 0 (by decide)) rfl i_X8 11 (by decide) (List.mem_of_getElem? (i := 6) rfl) rfl dX8_readItem_166 ?_
          refine zr_top (b := w11) rX_7 ?_
          refine zr_if_ne (pc := 169) (tgt := 225) hx hb dX8_readItem_169 (by decide) (by omega) (fun c_169 => ?_) (fun c_169 => ?_)
          · exact W.vret hx hb hr (fun tz ht hW => ⟨⟨(), rfl, trivial, by dsimp only; rw [ht]; exact (Or.inr ⟨q11, hq11, (hpz.resolve_left (fun z => c_169 z.1)).2, by have h := hP; rw [(hpz.resolve_left (fun z => c_169 z.1)).1] at h; exact h⟩)⟩, hS.F ht⟩) hS.2.2 dX8_readItem_225
          · obtain ⟨hz0, hITO, hqe⟩ := hpz.resolve_right (fun z => absurd z.1 (by omega))
            have y0 := c_169
            have y1 := (hi11 y0).1
            have y2 := (hi10 y1).1
            have e5 := hv9 y2
            have y3 := hz9 y2
            have e4 := hv8 y3
            have y4 := hz8 y3
            have e3 := hv7 y4
            have y5 := hz7 y4
            have e2 := hv6 y5
            have y6 := hz6 y5
            have e1 := hv5 y6
            have y7 := hz5 y6
            have hdd := hdk y1
            have hgc := itO_c hITO hw_4
            have hG2 : mkC g v5 v6 v7 v8 v9 1 = itG tx tl g p := by rw [itG_c hw_4, e1, e2, e3, e4, e5, ti_t hdd]
            refine lv_iload_n (pc := 172) hx hb dX8_readItem_172 rfl (lv_at hl 6 rfl) ?_
            refine zr_if_eq (pc := 173) (tgt := 201) hx hb dX8_readItem_173 (by decide) (by decide) (fun z => absurd z (by decide)) (fun _ => ?_)
            refine lv_aload_n (pc := 176) hx hb dX8_readItem_176 rfl (lv_at hl 7 rfl) ?_
            refine lv_iload_n (pc := 177) hx hb dX8_readItem_177 rfl (lv_at hl 5 rfl) ?_
            refine lv_iload_n (pc := 178) hx hb dX8_readItem_178 rfl (lv_at hl 4 rfl) ?_
            refine lv_iload (pc := 179) hx hb dX8_readItem_179 (lv_at hl 3 rfl) ?_
            refine lv_iload (pc := 181) hx hb dX8_readItem_181 (lv_at hl 2 rfl) ?_
            refine lv_iload (pc := 183) hx hb dX8_readItem_183 (lv_at hl 1 rfl) ?_
            refine lv_iload (pc := 185) hx hb dX8_readItem_185 (lv_at hl 0 rfl) ?_
            refine zr_if_eq (pc := 187) (tgt := 194) hx hb dX8_readItem_187 (by decide) (by decide) (fun z => absurd z (by decide)) (fun _ => ?_)
            refine lv_iconst (pc := 190) (v := zI 1) hx hb dX8_readItem_190 rfl ?_
            refine lv_goto (pc := 191) (tgt := 195) hx hb dX8_readItem_191 (by decide) ?_
            refine zr_vwi (pc := 195) (As := [.int (zI (v5)), .int (zI (v6)), .int (zI (v7)), .int (zI (v8)), .int (zI (v9)), .int (zI (1))]) (rest := []) S (ct_X8_makeCostume l D cI cT H.size am ((rX μ (tE tx tl q11) (tS tx tl q11) (rK tx tl q11) (rV tx tl q11) w11)) g (((rX_k (by decide)).trans hg)) hJ v5 v6 v7 v8 v9 1 (by omega) (by omega)) (cwV 6 hts gX8_readItem_X8_makeCostume rfl rfl rfl (by decide +kernel) ⟨Nat.le_of_ble_eq_true rfl, Nat.le_of_ble_eq_true rfl⟩) zs0 hK hP (zr_recv hK (hP 0 (by decide)) rfl) hS (fun q h => h.elim (fun ⟨k, k0, e⟩ => by rw [e]; exact hAin k k0) (fun z => hAn q (Nat.le_trans hS.1 z))) rfl hl.1 rfl (Nat.le_of_ble_eq_true rfl) dX8_readItem_195 ⟨Nat.le_of_ble_eq_true rfl, Nat.le_of_ble_eq_true rfl⟩ (fun r_195 H locs hG hz hk hS => ?_)
            obtain ⟨rfl, hP⟩ := hG
            rw [rX_up (by decide)] at hP
            refine lv_goto (pc := 198) (tgt := 209) hx hb dX8_readItem_198 (by decide) ?_
            refine lv_istore (pc := 209) (lv' := [(8, .int (zI (g 0))), (7, .int (zI (1))), (6, .int (zI (v9))), (5, .int (zI (v8))), (4, .int (zI (v7))), (3, .int (zI (v6))), (2, .int (zI (v5))), (1, .int (zI (1))), (0, .ref (am 0))]) hx hb dX8_readItem_209 hl (by decide) rfl (fun ls hl => ?_)
            refine lv_aload_n (pc := 211) hx hb dX8_readItem_211 rfl (lv_at hl 8 rfl) ?_
            refine lv_iload (pc := 212) hx hb dX8_readItem_212 (lv_at hl 0 rfl) ?_
            refine zr_if_ge (pc := 214) (tgt := 221) hx hb dX8_readItem_214 (by decide) (by omega) (fun c_214 => ?_) (fun c_214 => ?_)
            · refine lv_iconst (pc := 221) (v := zI 0) hx hb dX8_readItem_221 rfl ?_
              refine zr_put (pc := 222) S hK (hP 0 (by decide)) rfl i_X8 tyX8 tyX8_ok nmX8 11 (by decide) (List.mem_of_getElem? (i := 6) rfl) rfl rfl rfl (Nat.le_of_ble_eq_true rfl) hS (hAin 0 (by decide)) dX8_readItem_222 (fun H locs hO hz hk hS => ?_)
              have hP := zW.put hP hJ 0 (by decide) hO hk (mC_0_7 0)
              rw [rX_s7] at hP
              exact W.vret hx hb hr (fun tz ht hW => ⟨⟨(), rfl, trivial, by dsimp only; rw [ht]; exact (Or.inl ⟨hITO, by have h := hP; rw [hG2, hqe] at h; exact h⟩)⟩, hS.F ht⟩) hS.2.2 dX8_readItem_225
            · exact absurd c_214 (by omega)
        · refine lv_iconst (pc := 157) (v := zI 1) hx hb dX8_readItem_157 rfl ?_
          refine lv_goto (pc := 158) (tgt := 162) hx hb dX8_readItem_158 (by decide) ?_
          refine zr_vwv (pc := 162) (As := [.int (zI (1))]) (rest := []) S (ct_X8_take l D cI cT H.size am μ tl tx h2 h4 hJ t0 t1 htx q10 w10 1 (by omega) (by omega) (by omega) (by omega)) (cwV 1 hts gX8_readItem_X8_take rfl rfl rfl (by decide +kernel) ⟨Nat.le_of_ble_eq_true rfl, Nat.le_of_ble_eq_true rfl⟩) zs0 hK hP (zr_recv hK (hP 0 (by decide)) rfl) hS (fun q h => h.elim (fun ⟨k, k0, e⟩ => by rw [e]; exact hAin k k0) (fun z => hAn q (Nat.le_trans hS.1 z))) rfl hl.1 rfl (Nat.le_of_ble_eq_true rfl) dX8_readItem_162 ⟨Nat.le_of_ble_eq_true rfl, Nat.le_of_ble_eq_true rfl⟩ (fun H locs hG hz hk hS => ?_)
          obtain ⟨q12, w12, hc12, hP⟩ := hG
          obtain ⟨hw12, hq12, hi12⟩ := tk_b (tx := tx) (by omega) (by omega) hc12
          have hpz := ph_e hpe (by first | exact Or.inl ⟨rfl, rK_fin.mp c_154⟩ | exact Or.inr ⟨rfl, fun z => c_154 (rK_fin.mpr z)⟩) hc12
          refine lv_aload_n (pc := 165) hx hb dX8_readItem_165 rfl (lv_at hl 7 rfl) ?_
          refine zr_get (pc := 166) S hK (hP 0 (by decide)) rfl i_X8 11 (by decide) (List.mem_of_getElem? (i := 6) rfl) rfl dX8_readItem_166 ?_
          refine zr_top (b := w12) rX_7 ?_
          refine zr_if_ne (pc := 169) (tgt := 225) hx hb dX8_readItem_169 (by decide) (by omega) (fun c_169 => ?_) (fun c_169 => ?_)
          · exact W.vret hx hb hr (fun tz ht hW => ⟨⟨(), rfl, trivial, by dsimp only; rw [ht]; exact (Or.inr ⟨q12, hq12, (hpz.resolve_left (fun z => c_169 z.1)).2, by have h := hP; rw [(hpz.resolve_left (fun z => c_169 z.1)).1] at h; exact h⟩)⟩, hS.F ht⟩) hS.2.2 dX8_readItem_225
          · obtain ⟨hz0, hITO, hqe⟩ := hpz.resolve_right (fun z => absurd z.1 (by omega))
            have y0 := c_169
            have y1 := (hi12 y0).1
            have y2 := (hi10 y1).1
            have e5 := hv9 y2
            have y3 := hz9 y2
            have e4 := hv8 y3
            have y4 := hz8 y3
            have e3 := hv7 y4
            have y5 := hz7 y4
            have e2 := hv6 y5
            have y6 := hz6 y5
            have e1 := hv5 y6
            have y7 := hz5 y6
            have hdd := hdk y1
            have hgc := itO_c hITO hw_4
            have hG2 : mkC g v5 v6 v7 v8 v9 1 = itG tx tl g p := by rw [itG_c hw_4, e1, e2, e3, e4, e5, ti_t hdd]
            refine lv_iload_n (pc := 172) hx hb dX8_readItem_172 rfl (lv_at hl 6 rfl) ?_
            refine zr_if_eq (pc := 173) (tgt := 201) hx hb dX8_readItem_173 (by decide) (by decide) (fun z => absurd z (by decide)) (fun _ => ?_)
            refine lv_aload_n (pc := 176) hx hb dX8_readItem_176 rfl (lv_at hl 7 rfl) ?_
            refine lv_iload_n (pc := 177) hx hb dX8_readItem_177 rfl (lv_at hl 5 rfl) ?_
            refine lv_iload_n (pc := 178) hx hb dX8_readItem_178 rfl (lv_at hl 4 rfl) ?_
            refine lv_iload (pc := 179) hx hb dX8_readItem_179 (lv_at hl 3 rfl) ?_
            refine lv_iload (pc := 181) hx hb dX8_readItem_181 (lv_at hl 2 rfl) ?_
            refine lv_iload (pc := 183) hx hb dX8_readItem_183 (lv_at hl 1 rfl) ?_
            refine lv_iload (pc := 185) hx hb dX8_readItem_185 (lv_at hl 0 rfl) ?_
            refine zr_if_eq (pc := 187) (tgt := 194) hx hb dX8_readItem_187 (by decide) (by decide) (fun z => absurd z (by decide)) (fun _ => ?_)
            refine lv_iconst (pc := 190) (v := zI 1) hx hb dX8_readItem_190 rfl ?_
            refine lv_goto (pc := 191) (tgt := 195) hx hb dX8_readItem_191 (by decide) ?_
            refine zr_vwi (pc := 195) (As := [.int (zI (v5)), .int (zI (v6)), .int (zI (v7)), .int (zI (v8)), .int (zI (v9)), .int (zI (1))]) (rest := []) S (ct_X8_makeCostume l D cI cT H.size am ((rX μ (tE tx tl q12) (tS tx tl q12) (rK tx tl q12) (rV tx tl q12) w12)) g (((rX_k (by decide)).trans hg)) hJ v5 v6 v7 v8 v9 1 (by omega) (by omega)) (cwV 6 hts gX8_readItem_X8_makeCostume rfl rfl rfl (by decide +kernel) ⟨Nat.le_of_ble_eq_true rfl, Nat.le_of_ble_eq_true rfl⟩) zs0 hK hP (zr_recv hK (hP 0 (by decide)) rfl) hS (fun q h => h.elim (fun ⟨k, k0, e⟩ => by rw [e]; exact hAin k k0) (fun z => hAn q (Nat.le_trans hS.1 z))) rfl hl.1 rfl (Nat.le_of_ble_eq_true rfl) dX8_readItem_195 ⟨Nat.le_of_ble_eq_true rfl, Nat.le_of_ble_eq_true rfl⟩ (fun r_195 H locs hG hz hk hS => ?_)
            obtain ⟨rfl, hP⟩ := hG
            rw [rX_up (by decide)] at hP
            refine lv_goto (pc := 198) (tgt := 209) hx hb dX8_readItem_198 (by decide) ?_
            refine lv_istore (pc := 209) (lv' := [(8, .int (zI (g 0))), (7, .int (zI (1))), (6, .int (zI (v9))), (5, .int (zI (v8))), (4, .int (zI (v7))), (3, .int (zI (v6))), (2, .int (zI (v5))), (1, .int (zI (1))), (0, .ref (am 0))]) hx hb dX8_readItem_209 hl (by decide) rfl (fun ls hl => ?_)
            refine lv_aload_n (pc := 211) hx hb dX8_readItem_211 rfl (lv_at hl 8 rfl) ?_
            refine lv_iload (pc := 212) hx hb dX8_readItem_212 (lv_at hl 0 rfl) ?_
            refine zr_if_ge (pc := 214) (tgt := 221) hx hb dX8_readItem_214 (by decide) (by omega) (fun c_214 => ?_) (fun c_214 => ?_)
            · refine lv_iconst (pc := 221) (v := zI 0) hx hb dX8_readItem_221 rfl ?_
              refine zr_put (pc := 222) S hK (hP 0 (by decide)) rfl i_X8 tyX8 tyX8_ok nmX8 11 (by decide) (List.mem_of_getElem? (i := 6) rfl) rfl rfl rfl (Nat.le_of_ble_eq_true rfl) hS (hAin 0 (by decide)) dX8_readItem_222 (fun H locs hO hz hk hS => ?_)
              have hP := zW.put hP hJ 0 (by decide) hO hk (mC_0_7 0)
              rw [rX_s7] at hP
              exact W.vret hx hb hr (fun tz ht hW => ⟨⟨(), rfl, trivial, by dsimp only; rw [ht]; exact (Or.inl ⟨hITO, by have h := hP; rw [hG2, hqe] at h; exact h⟩)⟩, hS.F ht⟩) hS.2.2 dX8_readItem_225
            · exact absurd c_214 (by omega)
      · have hw_125 : ¬ tW tx tl q9 wdD := fun z => hb_125 ((rWD (by omega) (by omega)).mpr z)
        refine zr_if_eq (pc := 128) (tgt := 135) hx hb dX8_readItem_128 (by decide) (by decide) (fun _ => ?_) (fun z => absurd z (by decide))
        refine lv_iconst (pc := 135) (v := zI 0) hx hb dX8_readItem_135 rfl ?_
        refine lv_istore (pc := 136) (lv' := [(7, .int (zI (0))), (6, .int (zI (v9))), (5, .int (zI (v8))), (4, .int (zI (v7))), (3, .int (zI (v6))), (2, .int (zI (v5))), (1, .int (zI (1))), (0, .ref (am 0))]) hx hb dX8_readItem_136 hl (by decide) rfl (fun ls hl => ?_)
        obtain ⟨hpe, hdk⟩ := ph_d0 (show Ph tx tl g p (nN tx tl p + 1) _ _ by rw [hnN]; exact hp9) (fun z => hw_125)
        refine lv_iload (pc := 138) hx hb dX8_readItem_138 (lv_at hl 0 rfl) ?_
        refine zr_if_eq (pc := 140) (tgt := 148) hx hb dX8_readItem_140 (by decide) (by decide) (fun _ => ?_) (fun z => absurd z (by decide))
        refine lv_aload_n (pc := 148) hx hb dX8_readItem_148 rfl (lv_at hl 7 rfl) ?_
        refine lv_aload_n (pc := 149) hx hb dX8_readItem_149 rfl (lv_at hl 7 rfl) ?_
        refine zr_get (pc := 150) S hK (hP 0 (by decide)) rfl i_X8 9 (by decide) (List.mem_of_getElem? (i := 5) rfl) rfl dX8_readItem_150 ?_
        refine zr_top (b := rK tx tl q9) rX_5 ?_
        have hrk := rK_bd tx tl q9
        refine lv_iconst (pc := 153) (v := zI 2) hx hb dX8_readItem_153 rfl ?_
        refine zr_icmp_ne (pc := 154) (tgt := 161) hx hb dX8_readItem_154 (by decide) (by omega) (by decide) (fun c_154 => ?_) (fun c_154 => ?_)
        · refine lv_iconst (pc := 161) (v := zI 0) hx hb dX8_readItem_161 rfl ?_
          refine zr_vwv (pc := 162) (As := [.int (zI (0))]) (rest := []) S (ct_X8_take l D cI cT H.size am μ tl tx h2 h4 hJ t0 t1 htx q9 w9 0 (by omega) (by omega) (by omega) (by omega)) (cwV 1 hts gX8_readItem_X8_take rfl rfl rfl (by decide +kernel) ⟨Nat.le_of_ble_eq_true rfl, Nat.le_of_ble_eq_true rfl⟩) zs0 hK hP (zr_recv hK (hP 0 (by decide)) rfl) hS (fun q h => h.elim (fun ⟨k, k0, e⟩ => by rw [e]; exact hAin k k0) (fun z => hAn q (Nat.le_trans hS.1 z))) rfl hl.1 rfl (Nat.le_of_ble_eq_true rfl) dX8_readItem_162 ⟨Nat.le_of_ble_eq_true rfl, Nat.le_of_ble_eq_true rfl⟩ (fun H locs hG hz hk hS => ?_)
          obtain ⟨q13, w13, hc13, hP⟩ := hG
          obtain ⟨hw13, hq13, hi13⟩ := tk_b (tx := tx) (by omega) (by omega) hc13
          have hpz := ph_e hpe (by first | exact Or.inl ⟨rfl, rK_fin.mp c_154⟩ | exact Or.inr ⟨rfl, fun z => c_154 (rK_fin.mpr z)⟩) hc13
          refine lv_aload_n (pc := 165) hx hb dX8_readItem_165 rfl (lv_at hl 7 rfl) ?_
          refine zr_get (pc := 166) S hK (hP 0 (by decide)) rfl i_X8 11 (by decide) (List.mem_of_getElem? (i := 6) rfl) rfl dX8_readItem_166 ?_
          refine zr_top (b := w13) rX_7 ?_
          refine zr_if_ne (pc := 169) (tgt := 225) hx hb dX8_readItem_169 (by decide) (by omega) (fun c_169 => ?_) (fun c_169 => ?_)
          · exact W.vret hx hb hr (fun tz ht hW => ⟨⟨(), rfl, trivial, by dsimp only; rw [ht]; exact (Or.inr ⟨q13, hq13, (hpz.resolve_left (fun z => c_169 z.1)).2, by have h := hP; rw [(hpz.resolve_left (fun z => c_169 z.1)).1] at h; exact h⟩)⟩, hS.F ht⟩) hS.2.2 dX8_readItem_225
          · obtain ⟨hz0, hITO, hqe⟩ := hpz.resolve_right (fun z => absurd z.1 (by omega))
            have y0 := c_169
            have y1 := (hi13 y0).1
            have e5 := hv9 y1
            have y2 := hz9 y1
            have e4 := hv8 y2
            have y3 := hz8 y2
            have e3 := hv7 y3
            have y4 := hz7 y3
            have e2 := hv6 y4
            have y5 := hz6 y4
            have e1 := hv5 y5
            have y6 := hz5 y5
            have hdd := hdk y1
            have hgc := itO_c hITO hw_4
            have hG2 : mkC g v5 v6 v7 v8 v9 0 = itG tx tl g p := by rw [itG_c hw_4, e1, e2, e3, e4, e5, ti_f hdd]
            refine lv_iload_n (pc := 172) hx hb dX8_readItem_172 rfl (lv_at hl 6 rfl) ?_
            refine zr_if_eq (pc := 173) (tgt := 201) hx hb dX8_readItem_173 (by decide) (by decide) (fun z => absurd z (by decide)) (fun _ => ?_)
            refine lv_aload_n (pc := 176) hx hb dX8_readItem_176 rfl (lv_at hl 7 rfl) ?_
            refine lv_iload_n (pc := 177) hx hb dX8_readItem_177 rfl (lv_at hl 5 rfl) ?_
            refine lv_iload_n (pc := 178) hx hb dX8_readItem_178 rfl (lv_at hl 4 rfl) ?_
            refine lv_iload (pc := 179) hx hb dX8_readItem_179 (lv_at hl 3 rfl) ?_
            refine lv_iload (pc := 181) hx hb dX8_readItem_181 (lv_at hl 2 rfl) ?_
            refine lv_iload (pc := 183) hx hb dX8_readItem_183 (lv_at hl 1 rfl) ?_
            refine lv_iload (pc := 185) hx hb dX8_readItem_185 (lv_at hl 0 rfl) ?_
            refine zr_if_eq (pc := 187) (tgt := 194) hx hb dX8_readItem_187 (by decide) (by decide) (fun _ => ?_) (fun z => absurd z (by decide))
            refine lv_iconst (pc := 194) (v := zI 0) hx hb dX8_readItem_194 rfl ?_
            refine zr_vwi (pc := 195) (As := [.int (zI (v5)), .int (zI (v6)), .int (zI (v7)), .int (zI (v8)), .int (zI (v9)), .int (zI (0))]) (rest := []) S (ct_X8_makeCostume l D cI cT H.size am ((rX μ (tE tx tl q13) (tS tx tl q13) (rK tx tl q13) (rV tx tl q13) w13)) g (((rX_k (by decide)).trans hg)) hJ v5 v6 v7 v8 v9 0 (by omega) (by omega)) (cwV 6 hts gX8_readItem_X8_makeCostume rfl rfl rfl (by decide +kernel) ⟨Nat.le_of_ble_eq_true rfl, Nat.le_of_ble_eq_true rfl⟩) zs0 hK hP (zr_recv hK (hP 0 (by decide)) rfl) hS (fun q h => h.elim (fun ⟨k, k0, e⟩ => by rw [e]; exact hAin k k0) (fun z => hAn q (Nat.le_trans hS.1 z))) rfl hl.1 rfl (Nat.le_of_ble_eq_true rfl) dX8_readItem_195 ⟨Nat.le_of_ble_eq_true rfl, Nat.le_of_ble_eq_true rfl⟩ (fun r_195 H locs hG hz hk hS => ?_)
            obtain ⟨rfl, hP⟩ := hG
            rw [rX_up (by decide)] at hP
            refine lv_goto (pc := 198) (tgt := 209) hx hb dX8_readItem_198 (by decide) ?_
            refine lv_istore (pc := 209) (lv' := [(8, .int (zI (g 0))), (7, .int (zI (0))), (6, .int (zI (v9))), (5, .int (zI (v8))), (4, .int (zI (v7))), (3, .int (zI (v6))), (2, .int (zI (v5))), (1, .int (zI (1))), (0, .ref (am 0))]) hx hb dX8_readItem_209 hl (by decide) rfl (fun ls hl => ?_)
            refine lv_aload_n (pc := 211) hx hb dX8_readItem_211 rfl (lv_at hl 8 rfl) ?_
            refine lv_iload (pc := 212) hx hb dX8_readItem_212 (lv_at hl 0 rfl) ?_
            refine zr_if_ge (pc := 214) (tgt := 221) hx hb dX8_readItem_214 (by decide) (by omega) (fun c_214 => ?_) (fun c_214 => ?_)
            · refine lv_iconst (pc := 221) (v := zI 0) hx hb dX8_readItem_221 rfl ?_
              refine zr_put (pc := 222) S hK (hP 0 (by decide)) rfl i_X8 tyX8 tyX8_ok nmX8 11 (by decide) (List.mem_of_getElem? (i := 6) rfl) rfl rfl rfl (Nat.le_of_ble_eq_true rfl) hS (hAin 0 (by decide)) dX8_readItem_222 (fun H locs hO hz hk hS => ?_)
              have hP := zW.put hP hJ 0 (by decide) hO hk (mC_0_7 0)
              rw [rX_s7] at hP
              exact W.vret hx hb hr (fun tz ht hW => ⟨⟨(), rfl, trivial, by dsimp only; rw [ht]; exact (Or.inl ⟨hITO, by have h := hP; rw [hG2, hqe] at h; exact h⟩)⟩, hS.F ht⟩) hS.2.2 dX8_readItem_225
            · exact absurd c_214 (by omega)
        · refine lv_iconst (pc := 157) (v := zI 1) hx hb dX8_readItem_157 rfl ?_
          refine lv_goto (pc := 158) (tgt := 162) hx hb dX8_readItem_158 (by decide) ?_
          refine zr_vwv (pc := 162) (As := [.int (zI (1))]) (rest := []) S (ct_X8_take l D cI cT H.size am μ tl tx h2 h4 hJ t0 t1 htx q9 w9 1 (by omega) (by omega) (by omega) (by omega)) (cwV 1 hts gX8_readItem_X8_take rfl rfl rfl (by decide +kernel) ⟨Nat.le_of_ble_eq_true rfl, Nat.le_of_ble_eq_true rfl⟩) zs0 hK hP (zr_recv hK (hP 0 (by decide)) rfl) hS (fun q h => h.elim (fun ⟨k, k0, e⟩ => by rw [e]; exact hAin k k0) (fun z => hAn q (Nat.le_trans hS.1 z))) rfl hl.1 rfl (Nat.le_of_ble_eq_true rfl) dX8_readItem_162 ⟨Nat.le_of_ble_eq_true rfl, Nat.le_of_ble_eq_true rfl⟩ (fun H locs hG hz hk hS => ?_)
          obtain ⟨q14, w14, hc14, hP⟩ := hG
          obtain ⟨hw14, hq14, hi14⟩ := tk_b (tx := tx) (by omega) (by omega) hc14
          have hpz := ph_e hpe (by first | exact Or.inl ⟨rfl, rK_fin.mp c_154⟩ | exact Or.inr ⟨rfl, fun z => c_154 (rK_fin.mpr z)⟩) hc14
          refine lv_aload_n (pc := 165) hx hb dX8_readItem_165 rfl (lv_at hl 7 rfl) ?_
          refine zr_get (pc := 166) S hK (hP 0 (by decide)) rfl i_X8 11 (by decide) (List.mem_of_getElem? (i := 6) rfl) rfl dX8_readItem_166 ?_
          refine zr_top (b := w14) rX_7 ?_
          refine zr_if_ne (pc := 169) (tgt := 225) hx hb dX8_readItem_169 (by decide) (by omega) (fun c_169 => ?_) (fun c_169 => ?_)
          · exact W.vret hx hb hr (fun tz ht hW => ⟨⟨(), rfl, trivial, by dsimp only; rw [ht]; exact (Or.inr ⟨q14, hq14, (hpz.resolve_left (fun z => c_169 z.1)).2, by have h := hP; rw [(hpz.resolve_left (fun z => c_169 z.1)).1] at h; exact h⟩)⟩, hS.F ht⟩) hS.2.2 dX8_readItem_225
          · obtain ⟨hz0, hITO, hqe⟩ := hpz.resolve_right (fun z => absurd z.1 (by omega))
            have y0 := c_169
            have y1 := (hi14 y0).1
            have e5 := hv9 y1
            have y2 := hz9 y1
            have e4 := hv8 y2
            have y3 := hz8 y2
            have e3 := hv7 y3
            have y4 := hz7 y3
            have e2 := hv6 y4
            have y5 := hz6 y4
            have e1 := hv5 y5
            have y6 := hz5 y5
            have hdd := hdk y1
            have hgc := itO_c hITO hw_4
            have hG2 : mkC g v5 v6 v7 v8 v9 0 = itG tx tl g p := by rw [itG_c hw_4, e1, e2, e3, e4, e5, ti_f hdd]
            refine lv_iload_n (pc := 172) hx hb dX8_readItem_172 rfl (lv_at hl 6 rfl) ?_
            refine zr_if_eq (pc := 173) (tgt := 201) hx hb dX8_readItem_173 (by decide) (by decide) (fun z => absurd z (by decide)) (fun _ => ?_)
            refine lv_aload_n (pc := 176) hx hb dX8_readItem_176 rfl (lv_at hl 7 rfl) ?_
            refine lv_iload_n (pc := 177) hx hb dX8_readItem_177 rfl (lv_at hl 5 rfl) ?_
            refine lv_iload_n (pc := 178) hx hb dX8_readItem_178 rfl (lv_at hl 4 rfl) ?_
            refine lv_iload (pc := 179) hx hb dX8_readItem_179 (lv_at hl 3 rfl) ?_
            refine lv_iload (pc := 181) hx hb dX8_readItem_181 (lv_at hl 2 rfl) ?_
            refine lv_iload (pc := 183) hx hb dX8_readItem_183 (lv_at hl 1 rfl) ?_
            refine lv_iload (pc := 185) hx hb dX8_readItem_185 (lv_at hl 0 rfl) ?_
            refine zr_if_eq (pc := 187) (tgt := 194) hx hb dX8_readItem_187 (by decide) (by decide) (fun _ => ?_) (fun z => absurd z (by decide))
            refine lv_iconst (pc := 194) (v := zI 0) hx hb dX8_readItem_194 rfl ?_
            refine zr_vwi (pc := 195) (As := [.int (zI (v5)), .int (zI (v6)), .int (zI (v7)), .int (zI (v8)), .int (zI (v9)), .int (zI (0))]) (rest := []) S (ct_X8_makeCostume l D cI cT H.size am ((rX μ (tE tx tl q14) (tS tx tl q14) (rK tx tl q14) (rV tx tl q14) w14)) g (((rX_k (by decide)).trans hg)) hJ v5 v6 v7 v8 v9 0 (by omega) (by omega)) (cwV 6 hts gX8_readItem_X8_makeCostume rfl rfl rfl (by decide +kernel) ⟨Nat.le_of_ble_eq_true rfl, Nat.le_of_ble_eq_true rfl⟩) zs0 hK hP (zr_recv hK (hP 0 (by decide)) rfl) hS (fun q h => h.elim (fun ⟨k, k0, e⟩ => by rw [e]; exact hAin k k0) (fun z => hAn q (Nat.le_trans hS.1 z))) rfl hl.1 rfl (Nat.le_of_ble_eq_true rfl) dX8_readItem_195 ⟨Nat.le_of_ble_eq_true rfl, Nat.le_of_ble_eq_true rfl⟩ (fun r_195 H locs hG hz hk hS => ?_)
            obtain ⟨rfl, hP⟩ := hG
            rw [rX_up (by decide)] at hP
            refine lv_goto (pc := 198) (tgt := 209) hx hb dX8_readItem_198 (by decide) ?_
            refine lv_istore (pc := 209) (lv' := [(8, .int (zI (g 0))), (7, .int (zI (0))), (6, .int (zI (v9))), (5, .int (zI (v8))), (4, .int (zI (v7))), (3, .int (zI (v6))), (2, .int (zI (v5))), (1, .int (zI (1))), (0, .ref (am 0))]) hx hb dX8_readItem_209 hl (by decide) rfl (fun ls hl => ?_)
            refine lv_aload_n (pc := 211) hx hb dX8_readItem_211 rfl (lv_at hl 8 rfl) ?_
            refine lv_iload (pc := 212) hx hb dX8_readItem_212 (lv_at hl 0 rfl) ?_
            refine zr_if_ge (pc := 214) (tgt := 221) hx hb dX8_readItem_214 (by decide) (by omega) (fun c_214 => ?_) (fun c_214 => ?_)
            · refine lv_iconst (pc := 221) (v := zI 0) hx hb dX8_readItem_221 rfl ?_
              refine zr_put (pc := 222) S hK (hP 0 (by decide)) rfl i_X8 tyX8 tyX8_ok nmX8 11 (by decide) (List.mem_of_getElem? (i := 6) rfl) rfl rfl rfl (Nat.le_of_ble_eq_true rfl) hS (hAin 0 (by decide)) dX8_readItem_222 (fun H locs hO hz hk hS => ?_)
              have hP := zW.put hP hJ 0 (by decide) hO hk (mC_0_7 0)
              rw [rX_s7] at hP
              exact W.vret hx hb hr (fun tz ht hW => ⟨⟨(), rfl, trivial, by dsimp only; rw [ht]; exact (Or.inl ⟨hITO, by have h := hP; rw [hG2, hqe] at h; exact h⟩)⟩, hS.F ht⟩) hS.2.2 dX8_readItem_225
            · exact absurd c_214 (by omega)
    · skip
      refine lv_aload_n (pc := 8) hx hb dX8_readItem_8 rfl (lv_at hl 1 rfl) ?_
      refine lv_iload_n (pc := 9) hx hb dX8_readItem_9 rfl (lv_at hl 0 rfl) ?_
      refine zr_if_eq (pc := 10) (tgt := 24) hx hb dX8_readItem_10 (by decide) (by decide) (fun z => absurd z (by decide)) (fun _ => ?_)
      refine lv_aload_n (pc := 13) hx hb dX8_readItem_13 rfl (lv_at hl 1 rfl) ?_
      refine zr_get (pc := 14) S hK (hP 0 (by decide)) rfl i_X8 1 (by decide) (List.mem_of_getElem? (i := 2) rfl) rfl dX8_readItem_14 ?_
      refine lv_iconst (pc := 17) (v := zI 0) hx hb dX8_readItem_17 rfl ?_
      refine zr_ald (pc := 18) (n := 572) hx hb (zAr_of (zK_int hK) (hP 1 (by decide))) (by decide) (by decide) (by decide) dX8_readItem_18 ?_
      refine zr_top (b := g 0) (congrFun ((rX_k (by decide)).trans hg) _) ?_
      refine lv_bipush (pc := 19) (v := zI 16) hx hb dX8_readItem_19 zc_bipush_16 ?_
      refine zr_icmp_lt (pc := 21) (tgt := 45) hx hb dX8_readItem_21 (by decide) (by omega) (by decide) (fun c_21 => ?_) (fun c_21 => ?_)
      · refine lv_iconst (pc := 45) (v := zI 1) hx hb dX8_readItem_45 rfl ?_
        refine lv_goto (pc := 46) (tgt := 50) hx hb dX8_readItem_46 (by decide) ?_
        exact J_50 (1) (by first | exact Or.inl ⟨rfl, Or.inl ⟨hw_4, by omega⟩⟩ | exact Or.inl ⟨rfl, Or.inr ⟨hw_28, by omega⟩⟩ | exact Or.inr ⟨rfl, fun z => z.elim (fun y => by first | exact hw_4 y.1 | (have := y.2; omega)) (fun y => by first | exact hw_28 y.1 | (have := y.2; omega))⟩) ls (lv_sub hl [0, 1] rfl)
      · refine lv_aload_n (pc := 24) hx hb dX8_readItem_24 rfl (lv_at hl 1 rfl) ?_
        refine zr_ldc2 (pc := 25) (w := 605493) hx hb hown (hts _ (List.mem_of_getElem? (i := 3) rfl)) dX8_readItem_25 (by decide +kernel) ?_
        refine zr_vi (pc := 28) (As := [.long (zL (605493))]) (rest := [.ref (am 0)]) S (ct_X8_isWord l D cI cT am μ tl tx p 0 605493 (by omega) (by omega) (by decide) (by decide)) (cwV 1 hts gX8_readItem_X8_isWord rfl rfl rfl (by decide +kernel) ⟨Nat.le_of_ble_eq_true rfl, Nat.le_of_ble_eq_true rfl⟩) zs0 hK hP (zr_recv hK (hP 0 (by decide)) rfl) rfl hl.1 rfl (Nat.le_of_ble_eq_true rfl) dX8_readItem_28 ⟨Nat.le_of_ble_eq_true rfl, Nat.le_of_ble_eq_true rfl⟩ (fun r_28 hr_28 => ?_)
        rcases hr_28 with ⟨hb_28, rfl⟩ | ⟨hb_28, rfl⟩
        · have hw_28 : tW tx tl p wdA := (rWA (by omega) (by omega)).mp hb_28
          refine zr_if_eq (pc := 31) (tgt := 49) hx hb dX8_readItem_31 (by decide) (by decide) (fun z => absurd z (by decide)) (fun _ => ?_)
          exact (tW_ca hw_4 hw_28).elim
        · have hw_28 : ¬ tW tx tl p wdA := fun z => hb_28 ((rWA (by omega) (by omega)).mpr z)
          refine zr_if_eq (pc := 31) (tgt := 49) hx hb dX8_readItem_31 (by decide) (by decide) (fun _ => ?_) (fun z => absurd z (by decide))
          refine lv_iconst (pc := 49) (v := zI 0) hx hb dX8_readItem_49 rfl ?_
          exact J_50 (0) (by first | exact Or.inl ⟨rfl, Or.inl ⟨hw_4, by omega⟩⟩ | exact Or.inl ⟨rfl, Or.inr ⟨hw_28, by omega⟩⟩ | exact Or.inr ⟨rfl, fun z => z.elim (fun y => by first | exact hw_4 y.1 | (have := y.2; omega)) (fun y => by first | exact hw_28 y.1 | (have := y.2; omega))⟩) ls (lv_sub hl [0, 1] rfl)
  · have hw_4 : ¬ tW tx tl p wdC := fun z => hb_4 ((rWC (by omega) (by omega)).mpr z)
    refine lv_istore_n (pc := 7) (lv' := [(1, .int (zI (0))), (0, .ref (am 0))]) hx hb dX8_readItem_7 rfl hl (by decide) rfl (fun ls hl => ?_)
    refine zr_cut1 (nL := 9) (fun (bb : Int) => ((bb = 1 ∧ hdO tx tl g p) ∨ (bb = 0 ∧ ¬ hdO tx tl g p))) (fun (bb : Int) => [(1, .int (zI (0))), (0, .ref (am 0))]) (fun (bb : Int) => [.int (zI (bb)), .ref (am 0)]) (pc2 := 50) ?_ (fun J_50 => ?_)
    · intro bb hinv ls hl
      have hbb := hinv
      have hnN : nN tx tl p = 3 := nN_a hw_4
      refine zr_vwv (pc := 50) (As := [.int (zI (bb))]) (rest := []) S (ct_X8_take l D cI cT H.size am μ tl tx h2 h4 hJ t0 t1 htx p 0 bb (by omega) (by omega) (by omega) (by omega)) (cwV 1 hts gX8_readItem_X8_take rfl rfl rfl (by decide +kernel) ⟨Nat.le_of_ble_eq_true rfl, Nat.le_of_ble_eq_true rfl⟩) zs0 hK hP (zr_recv hK (hP 0 (by decide)) rfl) hS (fun q h => h.elim (fun ⟨k, k0, e⟩ => by rw [e]; exact hAin k k0) (fun z => hAn q (Nat.le_trans hS.1 z))) rfl hl.1 rfl (Nat.le_of_ble_eq_true rfl) dX8_readItem_50 ⟨Nat.le_of_ble_eq_true rfl, Nat.le_of_ble_eq_true rfl⟩ (fun H locs hG hz hk hS => ?_)
      obtain ⟨q15, w15, hc15, hP⟩ := hG
      obtain ⟨hw15, hq15, hi15⟩ := tk_b (tx := tx) (by omega) (by omega) hc15
      have hp15 : Ph tx tl g p 1 q15 w15 := ph_h hc15 hbb
      refine lv_aload_n (pc := 53) hx hb dX8_readItem_53 rfl (lv_at hl 1 rfl) ?_
      refine lv_bipush (pc := 54) (v := zI 40) hx hb dX8_readItem_54 zc_bipush_40 ?_
      refine lv_sipush (pc := 56) (v := zI 200) hx hb dX8_readItem_56 zc_sipush_200 ?_
      refine zr_vwi (pc := 59) (As := [.int (zI (40)), .int (zI (200))]) (rest := []) S (ct_X8_takeNumber l D cI cT H.size am μ tl tx h2 h4 hJ t0 t1 htx q15 w15 40 200 (by omega) (by omega) (by omega) (by decide) (by decide) (by decide) (by decide)) (cwV 2 hts gX8_readItem_X8_takeNumber rfl rfl rfl (by decide +kernel) ⟨Nat.le_of_ble_eq_true rfl, Nat.le_of_ble_eq_true rfl⟩) zs0 hK hP (zr_recv hK (hP 0 (by decide)) rfl) hS (fun q h => h.elim (fun ⟨k, k0, e⟩ => by rw [e]; exact hAin k k0) (fun z => hAn q (Nat.le_trans hS.1 z))) rfl hl.1 rfl (Nat.le_of_ble_eq_true rfl) dX8_readItem_59 ⟨Nat.le_of_ble_eq_true rfl, Nat.le_of_ble_eq_true rfl⟩ (fun r_59 H locs hG hz hk hS => ?_)
      obtain ⟨q16, w16, v16, rfl, hc16, hP⟩ := hG
      obtain ⟨hp16, hv16, hw16, hq16, hz16⟩ := ph_m (k := 1) hp15 (by omega) (by omega) (by decide) (by omega) (by decide) (by decide) hc16
      refine lv_istore_n (pc := 62) (lv' := [(2, .int (zI (v16))), (1, .int (zI (0))), (0, .ref (am 0))]) hx hb dX8_readItem_62 rfl hl (by decide) rfl (fun ls hl => ?_)
      refine lv_aload_n (pc := 63) hx hb dX8_readItem_63 rfl (lv_at hl 2 rfl) ?_
      refine lv_bipush (pc := 64) (v := zI 40) hx hb dX8_readItem_64 zc_bipush_40 ?_
      refine lv_sipush (pc := 66) (v := zI 200) hx hb dX8_readItem_66 zc_sipush_200 ?_
      refine zr_vwi (pc := 69) (As := [.int (zI (40)), .int (zI (200))]) (rest := []) S (ct_X8_takeNumber l D cI cT H.size am μ tl tx h2 h4 hJ t0 t1 htx q16 w16 40 200 (by omega) (by omega) (by omega) (by decide) (by decide) (by decide) (by decide)) (cwV 2 hts gX8_readItem_X8_takeNumber rfl rfl rfl (by decide +kernel) ⟨Nat.le_of_ble_eq_true rfl, Nat.le_of_ble_eq_true rfl⟩) zs0 hK hP (zr_recv hK (hP 0 (by decide)) rfl) hS (fun q h => h.elim (fun ⟨k, k0, e⟩ => by rw [e]; exact hAin k k0) (fun z => hAn q (Nat.le_trans hS.1 z))) rfl hl.1 rfl (Nat.le_of_ble_eq_true rfl) dX8_readItem_69 ⟨Nat.le_of_ble_eq_true rfl, Nat.le_of_ble_eq_true rfl⟩ (fun r_69 H locs hG hz hk hS => ?_)
      obtain ⟨q17, w17, v17, rfl, hc17, hP⟩ := hG
      obtain ⟨hp17, hv17, hw17, hq17, hz17⟩ := ph_m (k := 2) hp16 (by omega) (by omega) (by decide) (by omega) (by decide) (by decide) hc17
      refine lv_istore_n (pc := 72) (lv' := [(3, .int (zI (v17))), (2, .int (zI (v16))), (1, .int (zI (0))), (0, .ref (am 0))]) hx hb dX8_readItem_72 rfl hl (by decide) rfl (fun ls hl => ?_)
      refine lv_aload_n (pc := 73) hx hb dX8_readItem_73 rfl (lv_at hl 3 rfl) ?_
      refine lv_bipush (pc := 74) (v := zI 40) hx hb dX8_readItem_74 zc_bipush_40 ?_
      refine lv_sipush (pc := 76) (v := zI 200) hx hb dX8_readItem_76 zc_sipush_200 ?_
      refine zr_vwi (pc := 79) (As := [.int (zI (40)), .int (zI (200))]) (rest := []) S (ct_X8_takeNumber l D cI cT H.size am μ tl tx h2 h4 hJ t0 t1 htx q17 w17 40 200 (by omega) (by omega) (by omega) (by decide) (by decide) (by decide) (by decide)) (cwV 2 hts gX8_readItem_X8_takeNumber rfl rfl rfl (by decide +kernel) ⟨Nat.le_of_ble_eq_true rfl, Nat.le_of_ble_eq_true rfl⟩) zs0 hK hP (zr_recv hK (hP 0 (by decide)) rfl) hS (fun q h => h.elim (fun ⟨k, k0, e⟩ => by rw [e]; exact hAin k k0) (fun z => hAn q (Nat.le_trans hS.1 z))) rfl hl.1 rfl (Nat.le_of_ble_eq_true rfl) dX8_readItem_79 ⟨Nat.le_of_ble_eq_true rfl, Nat.le_of_ble_eq_true rfl⟩ (fun r_79 H locs hG hz hk hS => ?_)
      obtain ⟨q18, w18, v18, rfl, hc18, hP⟩ := hG
      obtain ⟨hp18, hv18, hw18, hq18, hz18⟩ := ph_m (k := 3) hp17 (by omega) (by omega) (by decide) (by omega) (by decide) (by decide) hc18
      refine lv_istore (pc := 82) (lv' := [(4, .int (zI (v18))), (3, .int (zI (v17))), (2, .int (zI (v16))), (1, .int (zI (0))), (0, .ref (am 0))]) hx hb dX8_readItem_82 hl (by decide) rfl (fun ls hl => ?_)
      refine lv_iload_n (pc := 84) hx hb dX8_readItem_84 rfl (lv_at hl 3 rfl) ?_
      refine zr_if_eq (pc := 85) (tgt := 98) hx hb dX8_readItem_85 (by decide) (by decide) (fun _ => ?_) (fun z => absurd z (by decide))
      refine lv_iconst (pc := 98) (v := zI 0) hx hb dX8_readItem_98 rfl ?_
      refine lv_istore (pc := 99) (lv' := [(5, .int (zI (0))), (4, .int (zI (v18))), (3, .int (zI (v17))), (2, .int (zI (v16))), (1, .int (zI (0))), (0, .ref (am 0))]) hx hb dX8_readItem_99 hl (by decide) rfl (fun ls hl => ?_)
      refine lv_iload_n (pc := 101) hx hb dX8_readItem_101 rfl (lv_at hl 4 rfl) ?_
      refine zr_if_eq (pc := 102) (tgt := 114) hx hb dX8_readItem_102 (by decide) (by decide) (fun _ => ?_) (fun z => absurd z (by decide))
      refine lv_iconst (pc := 114) (v := zI 0) hx hb dX8_readItem_114 rfl ?_
      refine lv_istore (pc := 115) (lv' := [(6, .int (zI (0))), (5, .int (zI (0))), (4, .int (zI (v18))), (3, .int (zI (v17))), (2, .int (zI (v16))), (1, .int (zI (0))), (0, .ref (am 0))]) hx hb dX8_readItem_115 hl (by decide) rfl (fun ls hl => ?_)
      refine lv_iload_n (pc := 117) hx hb dX8_readItem_117 rfl (lv_at hl 5 rfl) ?_
      refine zr_if_eq (pc := 118) (tgt := 135) hx hb dX8_readItem_118 (by decide) (by decide) (fun _ => ?_) (fun z => absurd z (by decide))
      refine lv_iconst (pc := 135) (v := zI 0) hx hb dX8_readItem_135 rfl ?_
      refine lv_istore (pc := 136) (lv' := [(7, .int (zI (0))), (6, .int (zI (0))), (5, .int (zI (0))), (4, .int (zI (v18))), (3, .int (zI (v17))), (2, .int (zI (v16))), (1, .int (zI (0))), (0, .ref (am 0))]) hx hb dX8_readItem_136 hl (by decide) rfl (fun ls hl => ?_)
      obtain ⟨hpe, hdk⟩ := ph_d0 (show Ph tx tl g p (nN tx tl p + 1) _ _ by rw [hnN]; exact hp18) (fun z => absurd z hw_4)
      refine lv_iload (pc := 138) hx hb dX8_readItem_138 (lv_at hl 0 rfl) ?_
      refine zr_if_eq (pc := 140) (tgt := 148) hx hb dX8_readItem_140 (by decide) (by decide) (fun _ => ?_) (fun z => absurd z (by decide))
      refine lv_aload_n (pc := 148) hx hb dX8_readItem_148 rfl (lv_at hl 7 rfl) ?_
      refine lv_aload_n (pc := 149) hx hb dX8_readItem_149 rfl (lv_at hl 7 rfl) ?_
      refine zr_get (pc := 150) S hK (hP 0 (by decide)) rfl i_X8 9 (by decide) (List.mem_of_getElem? (i := 5) rfl) rfl dX8_readItem_150 ?_
      refine zr_top (b := rK tx tl q18) rX_5 ?_
      have hrk := rK_bd tx tl q18
      refine lv_iconst (pc := 153) (v := zI 2) hx hb dX8_readItem_153 rfl ?_
      refine zr_icmp_ne (pc := 154) (tgt := 161) hx hb dX8_readItem_154 (by decide) (by omega) (by decide) (fun c_154 => ?_) (fun c_154 => ?_)
      · refine lv_iconst (pc := 161) (v := zI 0) hx hb dX8_readItem_161 rfl ?_
        refine zr_vwv (pc := 162) (As := [.int (zI (0))]) (rest := []) S (ct_X8_take l D cI cT H.size am μ tl tx h2 h4 hJ t0 t1 htx q18 w18 0 (by omega) (by omega) (by omega) (by omega)) (cwV 1 hts gX8_readItem_X8_take rfl rfl rfl (by decide +kernel) ⟨Nat.le_of_ble_eq_true rfl, Nat.le_of_ble_eq_true rfl⟩) zs0 hK hP (zr_recv hK (hP 0 (by decide)) rfl) hS (fun q h => h.elim (fun ⟨k, k0, e⟩ => by rw [e]; exact hAin k k0) (fun z => hAn q (Nat.le_trans hS.1 z))) rfl hl.1 rfl (Nat.le_of_ble_eq_true rfl) dX8_readItem_162 ⟨Nat.le_of_ble_eq_true rfl, Nat.le_of_ble_eq_true rfl⟩ (fun H locs hG hz hk hS => ?_)
        obtain ⟨q19, w19, hc19, hP⟩ := hG
        obtain ⟨hw19, hq19, hi19⟩ := tk_b (tx := tx) (by omega) (by omega) hc19
        have hpz := ph_e hpe (by first | exact Or.inl ⟨rfl, rK_fin.mp c_154⟩ | exact Or.inr ⟨rfl, fun z => c_154 (rK_fin.mpr z)⟩) hc19
        refine lv_aload_n (pc := 165) hx hb dX8_readItem_165 rfl (lv_at hl 7 rfl) ?_
        refine zr_get (pc := 166) S hK (hP 0 (by decide)) rfl i_X8 11 (by decide) (List.mem_of_getElem? (i := 6) rfl) rfl dX8_readItem_166 ?_
        refine zr_top (b := w19) rX_7 ?_
        refine zr_if_ne (pc := 169) (tgt := 225) hx hb dX8_readItem_169 (by decide) (by omega) (fun c_169 => ?_) (fun c_169 => ?_)
        · exact W.vret hx hb hr (fun tz ht hW => ⟨⟨(), rfl, trivial, by dsimp only; rw [ht]; exact (Or.inr ⟨q19, hq19, (hpz.resolve_left (fun z => c_169 z.1)).2, by have h := hP; rw [(hpz.resolve_left (fun z => c_169 z.1)).1] at h; exact h⟩)⟩, hS.F ht⟩) hS.2.2 dX8_readItem_225
        · obtain ⟨hz0, hITO, hqe⟩ := hpz.resolve_right (fun z => absurd z.1 (by omega))
          have y0 := c_169
          have y1 := (hi19 y0).1
          have e3 := hv18 y1
          have y2 := hz18 y1
          have e2 := hv17 y2
          have y3 := hz17 y2
          have e1 := hv16 y3
          have y4 := hz16 y3
          have hdd := hdk y1
          have hgc := itO_a hITO hw_4
          have hG2 : mkA g v16 v17 v18 = itG tx tl g p := by rw [itG_a hw_4, e1, e2, e3]
          refine lv_iload_n (pc := 172) hx hb dX8_readItem_172 rfl (lv_at hl 6 rfl) ?_
          refine zr_if_eq (pc := 173) (tgt := 201) hx hb dX8_readItem_173 (by decide) (by decide) (fun _ => ?_) (fun z => absurd z (by decide))
          refine lv_aload_n (pc := 201) hx hb dX8_readItem_201 rfl (lv_at hl 7 rfl) ?_
          refine lv_iload_n (pc := 202) hx hb dX8_readItem_202 rfl (lv_at hl 5 rfl) ?_
          refine lv_iload_n (pc := 203) hx hb dX8_readItem_203 rfl (lv_at hl 4 rfl) ?_
          refine lv_iload (pc := 204) hx hb dX8_readItem_204 (lv_at hl 3 rfl) ?_
          refine zr_vwi (pc := 206) (As := [.int (zI (v16)), .int (zI (v17)), .int (zI (v18))]) (rest := []) S (ct_X8_makeActor l D cI cT H.size am ((rX μ (tE tx tl q19) (tS tx tl q19) (rK tx tl q19) (rV tx tl q19) w19)) g (((rX_k (by decide)).trans hg)) hJ v16 v17 v18 (by omega) (by omega)) (cwV 3 hts gX8_readItem_X8_makeActor rfl rfl rfl (by decide +kernel) ⟨Nat.le_of_ble_eq_true rfl, Nat.le_of_ble_eq_true rfl⟩) zs0 hK hP (zr_recv hK (hP 0 (by decide)) rfl) hS (fun q h => h.elim (fun ⟨k, k0, e⟩ => by rw [e]; exact hAin k k0) (fun z => hAn q (Nat.le_trans hS.1 z))) rfl hl.1 rfl (Nat.le_of_ble_eq_true rfl) dX8_readItem_206 ⟨Nat.le_of_ble_eq_true rfl, Nat.le_of_ble_eq_true rfl⟩ (fun r_206 H locs hG hz hk hS => ?_)
          obtain ⟨rfl, hP⟩ := hG
          rw [rX_up (by decide)] at hP
          refine lv_istore (pc := 209) (lv' := [(8, .int (zI (g 1))), (7, .int (zI (0))), (6, .int (zI (0))), (5, .int (zI (0))), (4, .int (zI (v18))), (3, .int (zI (v17))), (2, .int (zI (v16))), (1, .int (zI (0))), (0, .ref (am 0))]) hx hb dX8_readItem_209 hl (by decide) rfl (fun ls hl => ?_)
          refine lv_aload_n (pc := 211) hx hb dX8_readItem_211 rfl (lv_at hl 8 rfl) ?_
          refine lv_iload (pc := 212) hx hb dX8_readItem_212 (lv_at hl 0 rfl) ?_
          refine zr_if_ge (pc := 214) (tgt := 221) hx hb dX8_readItem_214 (by decide) (by omega) (fun c_214 => ?_) (fun c_214 => ?_)
          · refine lv_iconst (pc := 221) (v := zI 0) hx hb dX8_readItem_221 rfl ?_
            refine zr_put (pc := 222) S hK (hP 0 (by decide)) rfl i_X8 tyX8 tyX8_ok nmX8 11 (by decide) (List.mem_of_getElem? (i := 6) rfl) rfl rfl rfl (Nat.le_of_ble_eq_true rfl) hS (hAin 0 (by decide)) dX8_readItem_222 (fun H locs hO hz hk hS => ?_)
            have hP := zW.put hP hJ 0 (by decide) hO hk (mC_0_7 0)
            rw [rX_s7] at hP
            exact W.vret hx hb hr (fun tz ht hW => ⟨⟨(), rfl, trivial, by dsimp only; rw [ht]; exact (Or.inl ⟨hITO, by have h := hP; rw [hG2, hqe] at h; exact h⟩)⟩, hS.F ht⟩) hS.2.2 dX8_readItem_225
          · exact absurd c_214 (by omega)
      · refine lv_iconst (pc := 157) (v := zI 1) hx hb dX8_readItem_157 rfl ?_
        refine lv_goto (pc := 158) (tgt := 162) hx hb dX8_readItem_158 (by decide) ?_
        refine zr_vwv (pc := 162) (As := [.int (zI (1))]) (rest := []) S (ct_X8_take l D cI cT H.size am μ tl tx h2 h4 hJ t0 t1 htx q18 w18 1 (by omega) (by omega) (by omega) (by omega)) (cwV 1 hts gX8_readItem_X8_take rfl rfl rfl (by decide +kernel) ⟨Nat.le_of_ble_eq_true rfl, Nat.le_of_ble_eq_true rfl⟩) zs0 hK hP (zr_recv hK (hP 0 (by decide)) rfl) hS (fun q h => h.elim (fun ⟨k, k0, e⟩ => by rw [e]; exact hAin k k0) (fun z => hAn q (Nat.le_trans hS.1 z))) rfl hl.1 rfl (Nat.le_of_ble_eq_true rfl) dX8_readItem_162 ⟨Nat.le_of_ble_eq_true rfl, Nat.le_of_ble_eq_true rfl⟩ (fun H locs hG hz hk hS => ?_)
        obtain ⟨q20, w20, hc20, hP⟩ := hG
        obtain ⟨hw20, hq20, hi20⟩ := tk_b (tx := tx) (by omega) (by omega) hc20
        have hpz := ph_e hpe (by first | exact Or.inl ⟨rfl, rK_fin.mp c_154⟩ | exact Or.inr ⟨rfl, fun z => c_154 (rK_fin.mpr z)⟩) hc20
        refine lv_aload_n (pc := 165) hx hb dX8_readItem_165 rfl (lv_at hl 7 rfl) ?_
        refine zr_get (pc := 166) S hK (hP 0 (by decide)) rfl i_X8 11 (by decide) (List.mem_of_getElem? (i := 6) rfl) rfl dX8_readItem_166 ?_
        refine zr_top (b := w20) rX_7 ?_
        refine zr_if_ne (pc := 169) (tgt := 225) hx hb dX8_readItem_169 (by decide) (by omega) (fun c_169 => ?_) (fun c_169 => ?_)
        · exact W.vret hx hb hr (fun tz ht hW => ⟨⟨(), rfl, trivial, by dsimp only; rw [ht]; exact (Or.inr ⟨q20, hq20, (hpz.resolve_left (fun z => c_169 z.1)).2, by have h := hP; rw [(hpz.resolve_left (fun z => c_169 z.1)).1] at h; exact h⟩)⟩, hS.F ht⟩) hS.2.2 dX8_readItem_225
        · obtain ⟨hz0, hITO, hqe⟩ := hpz.resolve_right (fun z => absurd z.1 (by omega))
          have y0 := c_169
          have y1 := (hi20 y0).1
          have e3 := hv18 y1
          have y2 := hz18 y1
          have e2 := hv17 y2
          have y3 := hz17 y2
          have e1 := hv16 y3
          have y4 := hz16 y3
          have hdd := hdk y1
          have hgc := itO_a hITO hw_4
          have hG2 : mkA g v16 v17 v18 = itG tx tl g p := by rw [itG_a hw_4, e1, e2, e3]
          refine lv_iload_n (pc := 172) hx hb dX8_readItem_172 rfl (lv_at hl 6 rfl) ?_
          refine zr_if_eq (pc := 173) (tgt := 201) hx hb dX8_readItem_173 (by decide) (by decide) (fun _ => ?_) (fun z => absurd z (by decide))
          refine lv_aload_n (pc := 201) hx hb dX8_readItem_201 rfl (lv_at hl 7 rfl) ?_
          refine lv_iload_n (pc := 202) hx hb dX8_readItem_202 rfl (lv_at hl 5 rfl) ?_
          refine lv_iload_n (pc := 203) hx hb dX8_readItem_203 rfl (lv_at hl 4 rfl) ?_
          refine lv_iload (pc := 204) hx hb dX8_readItem_204 (lv_at hl 3 rfl) ?_
          refine zr_vwi (pc := 206) (As := [.int (zI (v16)), .int (zI (v17)), .int (zI (v18))]) (rest := []) S (ct_X8_makeActor l D cI cT H.size am ((rX μ (tE tx tl q20) (tS tx tl q20) (rK tx tl q20) (rV tx tl q20) w20)) g (((rX_k (by decide)).trans hg)) hJ v16 v17 v18 (by omega) (by omega)) (cwV 3 hts gX8_readItem_X8_makeActor rfl rfl rfl (by decide +kernel) ⟨Nat.le_of_ble_eq_true rfl, Nat.le_of_ble_eq_true rfl⟩) zs0 hK hP (zr_recv hK (hP 0 (by decide)) rfl) hS (fun q h => h.elim (fun ⟨k, k0, e⟩ => by rw [e]; exact hAin k k0) (fun z => hAn q (Nat.le_trans hS.1 z))) rfl hl.1 rfl (Nat.le_of_ble_eq_true rfl) dX8_readItem_206 ⟨Nat.le_of_ble_eq_true rfl, Nat.le_of_ble_eq_true rfl⟩ (fun r_206 H locs hG hz hk hS => ?_)
          obtain ⟨rfl, hP⟩ := hG
          rw [rX_up (by decide)] at hP
          refine lv_istore (pc := 209) (lv' := [(8, .int (zI (g 1))), (7, .int (zI (0))), (6, .int (zI (0))), (5, .int (zI (0))), (4, .int (zI (v18))), (3, .int (zI (v17))), (2, .int (zI (v16))), (1, .int (zI (0))), (0, .ref (am 0))]) hx hb dX8_readItem_209 hl (by decide) rfl (fun ls hl => ?_)
          refine lv_aload_n (pc := 211) hx hb dX8_readItem_211 rfl (lv_at hl 8 rfl) ?_
          refine lv_iload (pc := 212) hx hb dX8_readItem_212 (lv_at hl 0 rfl) ?_
          refine zr_if_ge (pc := 214) (tgt := 221) hx hb dX8_readItem_214 (by decide) (by omega) (fun c_214 => ?_) (fun c_214 => ?_)
          · refine lv_iconst (pc := 221) (v := zI 0) hx hb dX8_readItem_221 rfl ?_
            refine zr_put (pc := 222) S hK (hP 0 (by decide)) rfl i_X8 tyX8 tyX8_ok nmX8 11 (by decide) (List.mem_of_getElem? (i := 6) rfl) rfl rfl rfl (Nat.le_of_ble_eq_true rfl) hS (hAin 0 (by decide)) dX8_readItem_222 (fun H locs hO hz hk hS => ?_)
            have hP := zW.put hP hJ 0 (by decide) hO hk (mC_0_7 0)
            rw [rX_s7] at hP
            exact W.vret hx hb hr (fun tz ht hW => ⟨⟨(), rfl, trivial, by dsimp only; rw [ht]; exact (Or.inl ⟨hITO, by have h := hP; rw [hG2, hqe] at h; exact h⟩)⟩, hS.F ht⟩) hS.2.2 dX8_readItem_225
          · exact absurd c_214 (by omega)
    · skip
      refine lv_aload_n (pc := 8) hx hb dX8_readItem_8 rfl (lv_at hl 1 rfl) ?_
      refine lv_iload_n (pc := 9) hx hb dX8_readItem_9 rfl (lv_at hl 0 rfl) ?_
      refine zr_if_eq (pc := 10) (tgt := 24) hx hb dX8_readItem_10 (by decide) (by decide) (fun _ => ?_) (fun z => absurd z (by decide))
      refine lv_aload_n (pc := 24) hx hb dX8_readItem_24 rfl (lv_at hl 1 rfl) ?_
      refine zr_ldc2 (pc := 25) (w := 605493) hx hb hown (hts _ (List.mem_of_getElem? (i := 3) rfl)) dX8_readItem_25 (by decide +kernel) ?_
      refine zr_vi (pc := 28) (As := [.long (zL (605493))]) (rest := [.ref (am 0)]) S (ct_X8_isWord l D cI cT am μ tl tx p 0 605493 (by omega) (by omega) (by decide) (by decide)) (cwV 1 hts gX8_readItem_X8_isWord rfl rfl rfl (by decide +kernel) ⟨Nat.le_of_ble_eq_true rfl, Nat.le_of_ble_eq_true rfl⟩) zs0 hK hP (zr_recv hK (hP 0 (by decide)) rfl) rfl hl.1 rfl (Nat.le_of_ble_eq_true rfl) dX8_readItem_28 ⟨Nat.le_of_ble_eq_true rfl, Nat.le_of_ble_eq_true rfl⟩ (fun r_28 hr_28 => ?_)
      rcases hr_28 with ⟨hb_28, rfl⟩ | ⟨hb_28, rfl⟩
      · have hw_28 : tW tx tl p wdA := (rWA (by omega) (by omega)).mp hb_28
        refine zr_if_eq (pc := 31) (tgt := 49) hx hb dX8_readItem_31 (by decide) (by decide) (fun z => absurd z (by decide)) (fun _ => ?_)
        skip
        refine lv_aload_n (pc := 34) hx hb dX8_readItem_34 rfl (lv_at hl 1 rfl) ?_
        refine zr_get (pc := 35) S hK (hP 0 (by decide)) rfl i_X8 1 (by decide) (List.mem_of_getElem? (i := 2) rfl) rfl dX8_readItem_35 ?_
        refine lv_iconst (pc := 38) (v := zI 1) hx hb dX8_readItem_38 rfl ?_
        refine zr_ald (pc := 39) (n := 572) hx hb (zAr_of (zK_int hK) (hP 1 (by decide))) (by decide) (by decide) (by decide) dX8_readItem_39 ?_
        refine zr_top (b := g 1) (congrFun ((rX_k (by decide)).trans hg) _) ?_
        refine lv_bipush (pc := 40) (v := zI 8) hx hb dX8_readItem_40 zc_bipush_8 ?_
        refine zr_icmp_ge (pc := 42) (tgt := 49) hx hb dX8_readItem_42 (by decide) (by omega) (by decide) (fun c_42 => ?_) (fun c_42 => ?_)
        · refine lv_iconst (pc := 49) (v := zI 0) hx hb dX8_readItem_49 rfl ?_
          exact J_50 (0) (by first | exact Or.inl ⟨rfl, Or.inl ⟨hw_4, by omega⟩⟩ | exact Or.inl ⟨rfl, Or.inr ⟨hw_28, by omega⟩⟩ | exact Or.inr ⟨rfl, fun z => z.elim (fun y => by first | exact hw_4 y.1 | (have := y.2; omega)) (fun y => by first | exact hw_28 y.1 | (have := y.2; omega))⟩) ls (lv_sub hl [0, 1] rfl)
        · refine lv_iconst (pc := 45) (v := zI 1) hx hb dX8_readItem_45 rfl ?_
          refine lv_goto (pc := 46) (tgt := 50) hx hb dX8_readItem_46 (by decide) ?_
          exact J_50 (1) (by first | exact Or.inl ⟨rfl, Or.inl ⟨hw_4, by omega⟩⟩ | exact Or.inl ⟨rfl, Or.inr ⟨hw_28, by omega⟩⟩ | exact Or.inr ⟨rfl, fun z => z.elim (fun y => by first | exact hw_4 y.1 | (have := y.2; omega)) (fun y => by first | exact hw_28 y.1 | (have := y.2; omega))⟩) ls (lv_sub hl [0, 1] rfl)
      · have hw_28 : ¬ tW tx tl p wdA := fun z => hb_28 ((rWA (by omega) (by omega)).mpr z)
        refine zr_if_eq (pc := 31) (tgt := 49) hx hb dX8_readItem_31 (by decide) (by decide) (fun _ => ?_) (fun z => absurd z (by decide))
        refine lv_iconst (pc := 49) (v := zI 0) hx hb dX8_readItem_49 rfl ?_
        exact J_50 (0) (by first | exact Or.inl ⟨rfl, Or.inl ⟨hw_4, by omega⟩⟩ | exact Or.inl ⟨rfl, Or.inr ⟨hw_28, by omega⟩⟩ | exact Or.inr ⟨rfl, fun z => z.elim (fun y => by first | exact hw_4 y.1 | (have := y.2; omega)) (fun y => by first | exact hw_28 y.1 | (have := y.2; omega))⟩) ls (lv_sub hl [0, 1] rfl)
