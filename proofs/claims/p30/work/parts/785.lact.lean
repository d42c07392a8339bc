set_option maxHeartbeats 4000000 in
set_option maxRecDepth 100000 in
theorem ct_L_act (l : Launch) (D : va_G) (cI cT : ClassId) (sz : Nat) (bs : Nat) (ad : Nat → Nat) (σ : Nat → Int → Int) (g : Int → Int) (hR : Rel σ g) (hI : Inv g) (σs : Nat → Nat → Int → Int) (n m : Nat) (hs : Nat → Int → Int) (tl : Int) (tx rd rp : Int → Int) (hn : n ≤ 5) (hm : m < 5) (hC : cH σs n m hs) (hJ7 : zJ ad 127) (hB : ∀ k : Nat, k < 127 → bs ≤ ad k) (y : Int) : zMi l yL_act wsL_act ({ frames := 8, cells := 0, slots := 0, locals := 187 }) D cI cT [.ref (ad 120), .int (zI (y))] sz (fun U H => (zW D ad 20 (sC cI ad σ) H ∧ hO1 D ad (n : Int) (m : Int) H ∧ hO2 D cT ad H ∧ hQs D cI ad σs H ∧ cY D cI ad tl tx rd rp H) ∧ zT bs U H) (fun rr H => ∃ (σ' : Nat → Int → Int) (σs' : Nat → Nat → Int → Int) (g' : Int → Int) (n' m' : Nat) (hs' : Nat → Int → Int), (Rel σ' g' ∧ cH σs' n' m' hs' ∧ n' ≤ 5 ∧ m' < 5) ∧ oR (actT g y).1 (actT g y).2.1 (actT g y).2.2 g n hs g' n' hs' rr ∧ zW D ad 20 (sC cI ad σ') H ∧ hO1 D ad (n' : Int) (m' : Int) H ∧ hO2 D cT ad H ∧ hQs D cI ad σs' H ∧ cY D cI ad tl tx rd rp H) (zR ad 127 sz) := by
  refine Met.ofW (cc := cL_act) (maxL := 3) (ret := (some .int)) (by decide) rfl ?_
  intro p_ e_ s m_ args below meth c_ s₁ B hml hv
  obtain ⟨rfl, hsz, hK, hF⟩ := hv
  have hx := B.exec
  have hb := B.bytes
  have hr := B.returns
  have hts := atoms_spec (ws := wsL_act) B.pre
  have hown : s.vm.findClass RL = some m_.cls := findClass_of_methodNamed B.named
  have hlocks := B.notSynchronized
  have S : CallFix p_ m_ c_ cL_act 3 s _ wsL_act RL := ⟨hx, hb, hml, hown, hts⟩
  subst hsz
  generalize hAe : (zR ad 127 s.heap.size) = A
  have hAn : ∀ q : Nat, s.heap.size ≤ q → A q := fun q h => by rw [← hAe]; exact Or.inr h
  obtain ⟨H, hHe⟩ : ∃ H : Heap, H = s.heap := ⟨_, rfl⟩
  rw [← hHe] at hF ⊢
  have hS : va_S A s.heap H [] := by rw [hHe]; exact va_S.rf
  obtain ⟨⟨hP, hH1, hH2, hQ, hY⟩, hT⟩ := hF
  have h15 := nd_15 y
  have hto := iv_to hI
  have hrm := zt_r (zI (shr y 4) - zI (shr y 4) / zI 2 * zI 2)
  change -2147483648 ≤ rmn (shr y 4) 2 ∧ rmn (shr y 4) 2 ≤ 2147483647 at hrm
  have hl := lv_entry ([.ref (ad 120), .int (zI (y))]) (n := 3) (Nat.le_of_ble_eq_true rfl)
  rw [lg_entry_eq]
  generalize (lg_sl ([.ref (ad 120), .int (zI (y))]) ++ List.replicate (3 - (lg_sl ([.ref (ad 120), .int (zI (y))])).length) Slot.unset).toArray = ls at hl ⊢
  have hl : lv_has ls 3 [(0, .ref (ad 120)), (1, .int (zI (y)))] := hl
  refine lv_iload_n (pc := 0) hx hb dL_act_0 rfl (lv_at hl 1 rfl) ?_
  refine lv_iconst (pc := 1) (v := zI 4) hx hb dL_act_1 rfl ?_
  refine zr_ishr (pc := 2) (d := shr y 4) hx hb dL_act_2 (zi_sr _ _) ?_
  refine lv_istore_n (pc := 3) (lv' := [(2, .int (zI (shr y 4))), (0, .ref (ad 120)), (1, .int (zI (y)))]) hx hb dL_act_3 rfl hl (by decide) rfl (fun ls hl => ?_)
  refine lv_iload_n (pc := 4) hx hb dL_act_4 rfl (lv_at hl 2 rfl) ?_
  refine lv_bipush (pc := 5) (v := zI 15) hx hb dL_act_5 zc_bipush_15 ?_
  refine zr_iand (pc := 7) (d := nd y 15) hx hb dL_act_7 (zi_nd _ _) ?_
  have rg_8 : -2147483648 ≤ nd y 15 ∧ nd y 15 ≤ 2147483647 := (by omega)
  by_cases c_8 : nd y 15 = 0
  · refine lv_tableIn (tgt := 84) (off := 76) hx hb dL_act_8 (by rw [zi_toInt rg_8, c_8]; decide) (by rw [zi_toInt rg_8, c_8]; decide) (by rw [zi_toInt rg_8, c_8]; rfl) (by decide) ?_
    refine lv_iload_n (pc := 84) hx hb dL_act_84 rfl (lv_at hl 0 rfl) ?_
    refine lv_iconst (pc := 85) (v := zI 2) hx hb dL_act_85 rfl ?_
    refine zr_irem (pc := 86) (d := rmn (shr y 4) 2) hx hb dL_act_86 (zi_rmn (by decide)) ?_
    refine zr_if_ne (pc := 87) (tgt := 139) hx hb dL_act_87 (by decide) (by omega) (fun c_87 => ?_) (fun c_87 => ?_)
    · refine lv_aload_n (pc := 139) hx hb dL_act_139 rfl (lv_at hl 1 rfl) ?_
      refine lv_bipush (pc := 140) (v := zI 75) hx hb dL_act_140 zc_bipush_75 ?_
      refine lv_iload_n (pc := 142) hx hb dL_act_142 rfl (lv_at hl 2 rfl) ?_
      refine lv_bipush (pc := 143) (v := zI 6) hx hb dL_act_143 zc_bipush_6 ?_
      refine zr_ishr (pc := 145) (d := shr y 6) hx hb dL_act_145 (zi_sr _ _) ?_
      refine lv_bipush (pc := 146) (v := zI 20) hx hb dL_act_146 zc_bipush_20 ?_
      refine zr_si (pc := 148) (As := [.int (zI (shr y 6)), .int (zI (20))]) (rest := [.int (zI (75)), .ref (ad 120)]) S (ct_L_low l D cI cT (shr y 6) 20 (by decide) (by decide)) (va_cwS 2 hts gL_act_L_low rfl rfl rfl (by decide +kernel) ⟨Nat.le_of_ble_eq_true rfl, Nat.le_of_ble_eq_true rfl⟩) zs0 hK trivial rfl hl.1 rfl (Nat.le_of_ble_eq_true rfl) dL_act_148 ⟨Nat.le_of_ble_eq_true rfl, Nat.le_of_ble_eq_true rfl⟩ (fun r_148 hr_148 => ?_)
      subst hr_148
      have hl_148 := lw_bd (v := (shr y 6)) (n := 20) (by decide)
      refine zr_iadd (pc := 151) (d := 75 + (lw (shr y 6) 20)) hx hb dL_act_151 rfl ?_
      refine lv_bipush (pc := 152) (v := zI 68) hx hb dL_act_152 zc_bipush_68 ?_
      refine lv_iload_n (pc := 154) hx hb dL_act_154 rfl (lv_at hl 2 rfl) ?_
      refine lv_iconst (pc := 155) (v := zI 5) hx hb dL_act_155 rfl ?_
      refine zr_ishr (pc := 156) (d := shr y 5) hx hb dL_act_156 (zi_sr _ _) ?_
      refine lv_bipush (pc := 157) (v := zI 20) hx hb dL_act_157 zc_bipush_20 ?_
      refine zr_si (pc := 159) (As := [.int (zI (shr y 5)), .int (zI (20))]) (rest := [.int (zI (68)), .int (zI (75 + (lw (shr y 6) 20))), .ref (ad 120)]) S (ct_L_low l D cI cT (shr y 5) 20 (by decide) (by decide)) (va_cwS 2 hts gL_act_L_low rfl rfl rfl (by decide +kernel) ⟨Nat.le_of_ble_eq_true rfl, Nat.le_of_ble_eq_true rfl⟩) zs0 hK trivial rfl hl.1 rfl (Nat.le_of_ble_eq_true rfl) dL_act_159 ⟨Nat.le_of_ble_eq_true rfl, Nat.le_of_ble_eq_true rfl⟩ (fun r_159 hr_159 => ?_)
      subst hr_159
      have hl_159 := lw_bd (v := (shr y 5)) (n := 20) (by decide)
      refine zr_iadd (pc := 162) (d := 68 + (lw (shr y 5) 20)) hx hb dL_act_162 rfl ?_
      refine lv_bipush (pc := 163) (v := zI 95) hx hb dL_act_163 zc_bipush_95 ?_
      refine lv_iload_n (pc := 165) hx hb dL_act_165 rfl (lv_at hl 2 rfl) ?_
      refine lv_iconst (pc := 166) (v := zI 4) hx hb dL_act_166 rfl ?_
      refine zr_ishr (pc := 167) (d := shr y 4) hx hb dL_act_167 (zi_sr _ _) ?_
      refine lv_bipush (pc := 168) (v := zI 9) hx hb dL_act_168 zc_bipush_9 ?_
      refine zr_si (pc := 170) (As := [.int (zI (shr y 4)), .int (zI (9))]) (rest := [.int (zI (95)), .int (zI (68 + (lw (shr y 5) 20))), .int (zI (75 + (lw (shr y 6) 20))), .ref (ad 120)]) S (ct_L_low l D cI cT (shr y 4) 9 (by decide) (by decide)) (va_cwS 2 hts gL_act_L_low rfl rfl rfl (by decide +kernel) ⟨Nat.le_of_ble_eq_true rfl, Nat.le_of_ble_eq_true rfl⟩) zs0 hK trivial rfl hl.1 rfl (Nat.le_of_ble_eq_true rfl) dL_act_170 ⟨Nat.le_of_ble_eq_true rfl, Nat.le_of_ble_eq_true rfl⟩ (fun r_170 hr_170 => ?_)
      subst hr_170
      have hl_170 := lw_bd (v := (shr y 4)) (n := 9) (by decide)
      refine zr_iadd (pc := 173) (d := 95 + (lw (shr y 4) 9)) hx hb dL_act_173 rfl ?_
      refine zr_vwi (pc := 174) (As := [.int (zI (75 + (lw (shr y 6) 20))), .int (zI (68 + (lw (shr y 5) 20))), .int (zI (95 + (lw (shr y 4) 9)))]) (rest := []) S (ct_X7_addActor l D cI cT H.size ad σ g hR hI σs n m hs tl tx rd rp hn hm hC hJ7 (75 + (lw (shr y 6) 20)) (68 + (lw (shr y 5) 20)) (95 + (lw (shr y 4) 9)) (by omega) (by omega) (by omega)) (cwV 3 hts gL_act_X7_addActor rfl rfl rfl (by decide +kernel) ⟨Nat.le_of_ble_eq_true rfl, Nat.le_of_ble_eq_true rfl⟩) zs0 hK ⟨hP, hH1, hH2, hQ, hY⟩ (zr_recv hK hY.1 rfl) hS (fun q h => by rw [← hAe, ← hHe]; exact h) rfl hl.1 rfl (Nat.le_of_ble_eq_true rfl) dL_act_174 ⟨Nat.le_of_ble_eq_true rfl, Nat.le_of_ble_eq_true rfl⟩ (fun r_174 H locs hG hz hk hS => ?_)
      obtain ⟨σ', σs', g', n', m', hs', k1, k2, k3⟩ := hG
      exact W.iret (v := r_174) hx hb hr (fun tz ht hW => ⟨⟨r_174, r_174, rfl, rfl, by dsimp only; rw [ht]; exact ⟨σ', σs', g', n', m', hs', k1, by rw [actT_1 c_8 c_87]; exact k2, k3⟩⟩, hS.F ht⟩) hS.2.2 dL_act_177
    · refine lv_aload_n (pc := 90) hx hb dL_act_90 rfl (lv_at hl 1 rfl) ?_
      refine lv_bipush (pc := 91) (v := zI 80) hx hb dL_act_91 zc_bipush_80 ?_
      refine lv_iload_n (pc := 93) hx hb dL_act_93 rfl (lv_at hl 2 rfl) ?_
      refine lv_bipush (pc := 94) (v := zI 6) hx hb dL_act_94 zc_bipush_6 ?_
      refine zr_ishr (pc := 96) (d := shr y 6) hx hb dL_act_96 (zi_sr _ _) ?_
      refine lv_bipush (pc := 97) (v := zI 20) hx hb dL_act_97 zc_bipush_20 ?_
      refine zr_si (pc := 99) (As := [.int (zI (shr y 6)), .int (zI (20))]) (rest := [.int (zI (80)), .ref (ad 120)]) S (ct_L_low l D cI cT (shr y 6) 20 (by decide) (by decide)) (va_cwS 2 hts gL_act_L_low rfl rfl rfl (by decide +kernel) ⟨Nat.le_of_ble_eq_true rfl, Nat.le_of_ble_eq_true rfl⟩) zs0 hK trivial rfl hl.1 rfl (Nat.le_of_ble_eq_true rfl) dL_act_99 ⟨Nat.le_of_ble_eq_true rfl, Nat.le_of_ble_eq_true rfl⟩ (fun r_99 hr_99 => ?_)
      subst hr_99
      have hl_99 := lw_bd (v := (shr y 6)) (n := 20) (by decide)
      refine zr_iadd (pc := 102) (d := 80 + (lw (shr y 6) 20)) hx hb dL_act_102 rfl ?_
      refine lv_bipush (pc := 103) (v := zI 70) hx hb dL_act_103 zc_bipush_70 ?_
      refine lv_iload_n (pc := 105) hx hb dL_act_105 rfl (lv_at hl 2 rfl) ?_
      refine lv_iconst (pc := 106) (v := zI 5) hx hb dL_act_106 rfl ?_
      refine zr_ishr (pc := 107) (d := shr y 5) hx hb dL_act_107 (zi_sr _ _) ?_
      refine lv_bipush (pc := 108) (v := zI 20) hx hb dL_act_108 zc_bipush_20 ?_
      refine zr_si (pc := 110) (As := [.int (zI (shr y 5)), .int (zI (20))]) (rest := [.int (zI (70)), .int (zI (80 + (lw (shr y 6) 20))), .ref (ad 120)]) S (ct_L_low l D cI cT (shr y 5) 20 (by decide) (by decide)) (va_cwS 2 hts gL_act_L_low rfl rfl rfl (by decide +kernel) ⟨Nat.le_of_ble_eq_true rfl, Nat.le_of_ble_eq_true rfl⟩) zs0 hK trivial rfl hl.1 rfl (Nat.le_of_ble_eq_true rfl) dL_act_110 ⟨Nat.le_of_ble_eq_true rfl, Nat.le_of_ble_eq_true rfl⟩ (fun r_110 hr_110 => ?_)
      subst hr_110
      have hl_110 := lw_bd (v := (shr y 5)) (n := 20) (by decide)
      refine zr_iadd (pc := 113) (d := 70 + (lw (shr y 5) 20)) hx hb dL_act_113 rfl ?_
      refine lv_bipush (pc := 114) (v := zI 100) hx hb dL_act_114 zc_bipush_100 ?_
      refine lv_iload_n (pc := 116) hx hb dL_act_116 rfl (lv_at hl 2 rfl) ?_
      refine lv_bipush (pc := 117) (v := zI 7) hx hb dL_act_117 zc_bipush_7 ?_
      refine zr_ishr (pc := 119) (d := shr y 7) hx hb dL_act_119 (zi_sr _ _) ?_
      refine lv_bipush (pc := 120) (v := zI 10) hx hb dL_act_120 zc_bipush_10 ?_
      refine zr_si (pc := 122) (As := [.int (zI (shr y 7)), .int (zI (10))]) (rest := [.int (zI (100)), .int (zI (70 + (lw (shr y 5) 20))), .int (zI (80 + (lw (shr y 6) 20))), .ref (ad 120)]) S (ct_L_low l D cI cT (shr y 7) 10 (by decide) (by decide)) (va_cwS 2 hts gL_act_L_low rfl rfl rfl (by decide +kernel) ⟨Nat.le_of_ble_eq_true rfl, Nat.le_of_ble_eq_true rfl⟩) zs0 hK trivial rfl hl.1 rfl (Nat.le_of_ble_eq_true rfl) dL_act_122 ⟨Nat.le_of_ble_eq_true rfl, Nat.le_of_ble_eq_true rfl⟩ (fun r_122 hr_122 => ?_)
      subst hr_122
      have hl_122 := lw_bd (v := (shr y 7)) (n := 10) (by decide)
      refine lv_iload_n (pc := 125) hx hb dL_act_125 rfl (lv_at hl 2 rfl) ?_
      refine lv_bipush (pc := 126) (v := zI 8) hx hb dL_act_126 zc_bipush_8 ?_
      refine zr_ishr (pc := 128) (d := shr y 8) hx hb dL_act_128 (zi_sr _ _) ?_
      refine lv_iconst (pc := 129) (v := zI 4) hx hb dL_act_129 rfl ?_
      refine zr_si (pc := 130) (As := [.int (zI (shr y 8)), .int (zI (4))]) (rest := [.int (zI (lw (shr y 7) 10)), .int (zI (100)), .int (zI (70 + (lw (shr y 5) 20))), .int (zI (80 + (lw (shr y 6) 20))), .ref (ad 120)]) S (ct_L_low l D cI cT (shr y 8) 4 (by decide) (by decide)) (va_cwS 2 hts gL_act_L_low rfl rfl rfl (by decide +kernel) ⟨Nat.le_of_ble_eq_true rfl, Nat.le_of_ble_eq_true rfl⟩) zs0 hK trivial rfl hl.1 rfl (Nat.le_of_ble_eq_true rfl) dL_act_130 ⟨Nat.le_of_ble_eq_true rfl, Nat.le_of_ble_eq_true rfl⟩ (fun r_130 hr_130 => ?_)
      subst hr_130
      have hl_130 := lw_bd (v := (shr y 8)) (n := 4) (by decide)
      refine zr_vwi (pc := 133) (As := [.int (zI (80 + (lw (shr y 6) 20))), .int (zI (70 + (lw (shr y 5) 20))), .int (zI (100)), .int (zI (lw (shr y 7) 10)), .int (zI (lw (shr y 8) 4))]) (rest := []) S (ct_X7_addCostume l D cI cT H.size ad σ g hR hI σs n m hs tl tx rd rp hn hm hC hJ7 (80 + (lw (shr y 6) 20)) (70 + (lw (shr y 5) 20)) 100 (lw (shr y 7) 10) (lw (shr y 8) 4) (by omega) (by omega) (by decide) (by omega) (by omega)) (cwV 5 hts gL_act_X7_addCostume rfl rfl rfl (by decide +kernel) ⟨Nat.le_of_ble_eq_true rfl, Nat.le_of_ble_eq_true rfl⟩) zs0 hK ⟨hP, hH1, hH2, hQ, hY⟩ (zr_recv hK hY.1 rfl) hS (fun q h => by rw [← hAe, ← hHe]; exact h) rfl hl.1 rfl (Nat.le_of_ble_eq_true rfl) dL_act_133 ⟨Nat.le_of_ble_eq_true rfl, Nat.le_of_ble_eq_true rfl⟩ (fun r_133 H locs hG hz hk hS => ?_)
      refine lv_goto (pc := 136) (tgt := 177) hx hb dL_act_136 (by decide) ?_
      obtain ⟨σ', σs', g', n', m', hs', k1, k2, k3⟩ := hG
      exact W.iret (v := r_133) hx hb hr (fun tz ht hW => ⟨⟨r_133, r_133, rfl, rfl, by dsimp only; rw [ht]; exact ⟨σ', σs', g', n', m', hs', k1, by rw [actT_0 ⟨c_8, c_87⟩]; exact k2, k3⟩⟩, hS.F ht⟩) hS.2.2 dL_act_177
  have n0_8 := c_8
  by_cases c_8 : nd y 15 = 1
  · refine lv_tableIn (tgt := 178) (off := 170) hx hb dL_act_8 (by rw [zi_toInt rg_8, c_8]; decide) (by rw [zi_toInt rg_8, c_8]; decide) (by rw [zi_toInt rg_8, c_8]; rfl) (by decide) ?_
    refine lv_aload_n (pc := 178) hx hb dL_act_178 rfl (lv_at hl 1 rfl) ?_
    refine lv_iload_n (pc := 179) hx hb dL_act_179 rfl (lv_at hl 0 rfl) ?_
    refine lv_iconst (pc := 180) (v := zI 3) hx hb dL_act_180 rfl ?_
    refine zr_si (pc := 181) (As := [.int (zI (shr y 4)), .int (zI (3))]) (rest := [.ref (ad 120)]) S (ct_L_low l D cI cT (shr y 4) 3 (by decide) (by decide)) (va_cwS 2 hts gL_act_L_low rfl rfl rfl (by decide +kernel) ⟨Nat.le_of_ble_eq_true rfl, Nat.le_of_ble_eq_true rfl⟩) zs0 hK trivial rfl hl.1 rfl (Nat.le_of_ble_eq_true rfl) dL_act_181 ⟨Nat.le_of_ble_eq_true rfl, Nat.le_of_ble_eq_true rfl⟩ (fun r_181 hr_181 => ?_)
    subst hr_181
    have hl_181 := lw_bd (v := (shr y 4)) (n := 3) (by decide)
    refine lv_iload_n (pc := 184) hx hb dL_act_184 rfl (lv_at hl 2 rfl) ?_
    refine lv_bipush (pc := 185) (v := zI 7) hx hb dL_act_185 zc_bipush_7 ?_
    refine zr_ishr (pc := 187) (d := shr y 7) hx hb dL_act_187 (zi_sr _ _) ?_
    refine lv_iconst (pc := 188) (v := zI 3) hx hb dL_act_188 rfl ?_
    refine zr_si (pc := 189) (As := [.int (zI (shr y 7)), .int (zI (3))]) (rest := [.int (zI (lw (shr y 4) 3)), .ref (ad 120)]) S (ct_L_low l D cI cT (shr y 7) 3 (by decide) (by decide)) (va_cwS 2 hts gL_act_L_low rfl rfl rfl (by decide +kernel) ⟨Nat.le_of_ble_eq_true rfl, Nat.le_of_ble_eq_true rfl⟩) zs0 hK trivial rfl hl.1 rfl (Nat.le_of_ble_eq_true rfl) dL_act_189 ⟨Nat.le_of_ble_eq_true rfl, Nat.le_of_ble_eq_true rfl⟩ (fun r_189 hr_189 => ?_)
    subst hr_189
    have hl_189 := lw_bd (v := (shr y 7)) (n := 3) (by decide)
    refine zr_vwi (pc := 192) (As := [.int (zI (lw (shr y 4) 3)), .int (zI (lw (shr y 7) 3))]) (rest := []) S (ct_X7_setColor l D cI cT H.size ad σ g hR hI σs n m hs tl tx rd rp hn hm hC hJ7 (lw (shr y 4) 3) (lw (shr y 7) 3) (by omega) (by omega)) (cwV 2 hts gL_act_X7_setColor rfl rfl rfl (by decide +kernel) ⟨Nat.le_of_ble_eq_true rfl, Nat.le_of_ble_eq_true rfl⟩) zs0 hK ⟨hP, hH1, hH2, hQ, hY⟩ (zr_recv hK hY.1 rfl) hS (fun q h => by rw [← hAe, ← hHe]; exact h) rfl hl.1 rfl (Nat.le_of_ble_eq_true rfl) dL_act_192 ⟨Nat.le_of_ble_eq_true rfl, Nat.le_of_ble_eq_true rfl⟩ (fun r_192 H locs hG hz hk hS => ?_)
    obtain ⟨σ', σs', g', n', m', hs', k1, k2, k3⟩ := hG
    exact W.iret (v := r_192) hx hb hr (fun tz ht hW => ⟨⟨r_192, r_192, rfl, rfl, by dsimp only; rw [ht]; exact ⟨σ', σs', g', n', m', hs', k1, by rw [actT_2 c_8]; exact k2, k3⟩⟩, hS.F ht⟩) hS.2.2 dL_act_195
  have n1_8 := c_8
  by_cases c_8 : nd y 15 = 2
  · refine lv_tableIn (tgt := 196) (off := 188) hx hb dL_act_8 (by rw [zi_toInt rg_8, c_8]; decide) (by rw [zi_toInt rg_8, c_8]; decide) (by rw [zi_toInt rg_8, c_8]; rfl) (by decide) ?_
    refine lv_aload_n (pc := 196) hx hb dL_act_196 rfl (lv_at hl 1 rfl) ?_
    refine lv_iload_n (pc := 197) hx hb dL_act_197 rfl (lv_at hl 0 rfl) ?_
    refine lv_iconst (pc := 198) (v := zI 5) hx hb dL_act_198 rfl ?_
    refine zr_si (pc := 199) (As := [.int (zI (shr y 4)), .int (zI (5))]) (rest := [.ref (ad 120)]) S (ct_L_low l D cI cT (shr y 4) 5 (by decide) (by decide)) (va_cwS 2 hts gL_act_L_low rfl rfl rfl (by decide +kernel) ⟨Nat.le_of_ble_eq_true rfl, Nat.le_of_ble_eq_true rfl⟩) zs0 hK trivial rfl hl.1 rfl (Nat.le_of_ble_eq_true rfl) dL_act_199 ⟨Nat.le_of_ble_eq_true rfl, Nat.le_of_ble_eq_true rfl⟩ (fun r_199 hr_199 => ?_)
    subst hr_199
    have hl_199 := lw_bd (v := (shr y 4)) (n := 5) (by decide)
    refine lv_iload_n (pc := 202) hx hb dL_act_202 rfl (lv_at hl 2 rfl) ?_
    refine lv_bipush (pc := 203) (v := zI 6) hx hb dL_act_203 zc_bipush_6 ?_
    refine zr_ishr (pc := 205) (d := shr y 6) hx hb dL_act_205 (zi_sr _ _) ?_
    refine lv_bipush (pc := 206) (v := zI 12) hx hb dL_act_206 zc_bipush_12 ?_
    refine zr_si (pc := 208) (As := [.int (zI (shr y 6)), .int (zI (12))]) (rest := [.int (zI (lw (shr y 4) 5)), .ref (ad 120)]) S (ct_L_low l D cI cT (shr y 6) 12 (by decide) (by decide)) (va_cwS 2 hts gL_act_L_low rfl rfl rfl (by decide +kernel) ⟨Nat.le_of_ble_eq_true rfl, Nat.le_of_ble_eq_true rfl⟩) zs0 hK trivial rfl hl.1 rfl (Nat.le_of_ble_eq_true rfl) dL_act_208 ⟨Nat.le_of_ble_eq_true rfl, Nat.le_of_ble_eq_true rfl⟩ (fun r_208 hr_208 => ?_)
    subst hr_208
    have hl_208 := lw_bd (v := (shr y 6)) (n := 12) (by decide)
    refine zr_vwi (pc := 211) (As := [.int (zI (lw (shr y 4) 5)), .int (zI (lw (shr y 6) 12))]) (rest := []) S (ct_X7_set l D cI cT H.size ad σ g hR hI σs n m hs tl tx rd rp hn hm hC hJ7 (lw (shr y 4) 5) (lw (shr y 6) 12) (by omega) (by omega)) (cwV 2 hts gL_act_X7_set rfl rfl rfl (by decide +kernel) ⟨Nat.le_of_ble_eq_true rfl, Nat.le_of_ble_eq_true rfl⟩) zs0 hK ⟨hP, hH1, hH2, hQ, hY⟩ (zr_recv hK hY.1 rfl) hS (fun q h => by rw [← hAe, ← hHe]; exact h) rfl hl.1 rfl (Nat.le_of_ble_eq_true rfl) dL_act_211 ⟨Nat.le_of_ble_eq_true rfl, Nat.le_of_ble_eq_true rfl⟩ (fun r_211 H locs hG hz hk hS => ?_)
    obtain ⟨σ', σs', g', n', m', hs', k1, k2, k3⟩ := hG
    exact W.iret (v := r_211) hx hb hr (fun tz ht hW => ⟨⟨r_211, r_211, rfl, rfl, by dsimp only; rw [ht]; exact ⟨σ', σs', g', n', m', hs', k1, by rw [actT_3 c_8]; exact k2, k3⟩⟩, hS.F ht⟩) hS.2.2 dL_act_214
  have n2_8 := c_8
  by_cases c_8 : nd y 15 = 3
  · refine lv_tableIn (tgt := 215) (off := 207) hx hb dL_act_8 (by rw [zi_toInt rg_8, c_8]; decide) (by rw [zi_toInt rg_8, c_8]; decide) (by rw [zi_toInt rg_8, c_8]; rfl) (by decide) ?_
    refine lv_aload_n (pc := 215) hx hb dL_act_215 rfl (lv_at hl 1 rfl) ?_
    refine lv_iload_n (pc := 216) hx hb dL_act_216 rfl (lv_at hl 0 rfl) ?_
    refine lv_iconst (pc := 217) (v := zI 3) hx hb dL_act_217 rfl ?_
    refine zr_si (pc := 218) (As := [.int (zI (shr y 4)), .int (zI (3))]) (rest := [.ref (ad 120)]) S (ct_L_low l D cI cT (shr y 4) 3 (by decide) (by decide)) (va_cwS 2 hts gL_act_L_low rfl rfl rfl (by decide +kernel) ⟨Nat.le_of_ble_eq_true rfl, Nat.le_of_ble_eq_true rfl⟩) zs0 hK trivial rfl hl.1 rfl (Nat.le_of_ble_eq_true rfl) dL_act_218 ⟨Nat.le_of_ble_eq_true rfl, Nat.le_of_ble_eq_true rfl⟩ (fun r_218 hr_218 => ?_)
    subst hr_218
    have hl_218 := lw_bd (v := (shr y 4)) (n := 3) (by decide)
    refine lv_iload_n (pc := 221) hx hb dL_act_221 rfl (lv_at hl 2 rfl) ?_
    refine lv_bipush (pc := 222) (v := zI 6) hx hb dL_act_222 zc_bipush_6 ?_
    refine zr_ishr (pc := 224) (d := shr y 6) hx hb dL_act_224 (zi_sr _ _) ?_
    refine lv_iconst (pc := 225) (v := zI 3) hx hb dL_act_225 rfl ?_
    refine zr_si (pc := 226) (As := [.int (zI (shr y 6)), .int (zI (3))]) (rest := [.int (zI (lw (shr y 4) 3)), .ref (ad 120)]) S (ct_L_low l D cI cT (shr y 6) 3 (by decide) (by decide)) (va_cwS 2 hts gL_act_L_low rfl rfl rfl (by decide +kernel) ⟨Nat.le_of_ble_eq_true rfl, Nat.le_of_ble_eq_true rfl⟩) zs0 hK trivial rfl hl.1 rfl (Nat.le_of_ble_eq_true rfl) dL_act_226 ⟨Nat.le_of_ble_eq_true rfl, Nat.le_of_ble_eq_true rfl⟩ (fun r_226 hr_226 => ?_)
    subst hr_226
    have hl_226 := lw_bd (v := (shr y 6)) (n := 3) (by decide)
    refine lv_iload_n (pc := 229) hx hb dL_act_229 rfl (lv_at hl 2 rfl) ?_
    refine lv_bipush (pc := 230) (v := zI 8) hx hb dL_act_230 zc_bipush_8 ?_
    refine zr_ishr (pc := 232) (d := shr y 8) hx hb dL_act_232 (zi_sr _ _) ?_
    refine lv_bipush (pc := 233) (v := zI 21) hx hb dL_act_233 zc_bipush_21 ?_
    refine zr_si (pc := 235) (As := [.int (zI (shr y 8)), .int (zI (21))]) (rest := [.int (zI (lw (shr y 6) 3)), .int (zI (lw (shr y 4) 3)), .ref (ad 120)]) S (ct_L_low l D cI cT (shr y 8) 21 (by decide) (by decide)) (va_cwS 2 hts gL_act_L_low rfl rfl rfl (by decide +kernel) ⟨Nat.le_of_ble_eq_true rfl, Nat.le_of_ble_eq_true rfl⟩) zs0 hK trivial rfl hl.1 rfl (Nat.le_of_ble_eq_true rfl) dL_act_235 ⟨Nat.le_of_ble_eq_true rfl, Nat.le_of_ble_eq_true rfl⟩ (fun r_235 hr_235 => ?_)
    subst hr_235
    have hl_235 := lw_bd (v := (shr y 8)) (n := 21) (by decide)
    refine lv_bipush (pc := 238) (v := zI 10) hx hb dL_act_238 zc_bipush_10 ?_
    refine zr_isub (pc := 240) (d := (lw (shr y 8) 21) - 10) hx hb dL_act_240 rfl ?_
    refine zr_vwi (pc := 241) (As := [.int (zI (lw (shr y 4) 3)), .int (zI (lw (shr y 6) 3)), .int (zI ((lw (shr y 8) 21) - 10))]) (rest := []) S (ct_X7_alter l D cI cT H.size ad σ g hR hI σs n m hs tl tx rd rp hn hm hC hJ7 (lw (shr y 4) 3) (lw (shr y 6) 3) ((lw (shr y 8) 21) - 10) (by omega) (by omega) (by omega)) (cwV 3 hts gL_act_X7_alter rfl rfl rfl (by decide +kernel) ⟨Nat.le_of_ble_eq_true rfl, Nat.le_of_ble_eq_true rfl⟩) zs0 hK ⟨hP, hH1, hH2, hQ, hY⟩ (zr_recv hK hY.1 rfl) hS (fun q h => by rw [← hAe, ← hHe]; exact h) rfl hl.1 rfl (Nat.le_of_ble_eq_true rfl) dL_act_241 ⟨Nat.le_of_ble_eq_true rfl, Nat.le_of_ble_eq_true rfl⟩ (fun r_241 H locs hG hz hk hS => ?_)
    obtain ⟨σ', σs', g', n', m', hs', k1, k2, k3⟩ := hG
    exact W.iret (v := r_241) hx hb hr (fun tz ht hW => ⟨⟨r_241, r_241, rfl, rfl, by dsimp only; rw [ht]; exact ⟨σ', σs', g', n', m', hs', k1, by rw [actT_4 (by omega)]; exact k2, k3⟩⟩, hS.F ht⟩) hS.2.2 dL_act_244
  have n3_8 := c_8
  by_cases c_8 : nd y 15 = 4
  · refine lv_tableIn (tgt := 215) (off := 207) hx hb dL_act_8 (by rw [zi_toInt rg_8, c_8]; decide) (by rw [zi_toInt rg_8, c_8]; decide) (by rw [zi_toInt rg_8, c_8]; rfl) (by decide) ?_
    refine lv_aload_n (pc := 215) hx hb dL_act_215 rfl (lv_at hl 1 rfl) ?_
    refine lv_iload_n (pc := 216) hx hb dL_act_216 rfl (lv_at hl 0 rfl) ?_
    refine lv_iconst (pc := 217) (v := zI 3) hx hb dL_act_217 rfl ?_
    refine zr_si (pc := 218) (As := [.int (zI (shr y 4)), .int (zI (3))]) (rest := [.ref (ad 120)]) S (ct_L_low l D cI cT (shr y 4) 3 (by decide) (by decide)) (va_cwS 2 hts gL_act_L_low rfl rfl rfl (by decide +kernel) ⟨Nat.le_of_ble_eq_true rfl, Nat.le_of_ble_eq_true rfl⟩) zs0 hK trivial rfl hl.1 rfl (Nat.le_of_ble_eq_true rfl) dL_act_218 ⟨Nat.le_of_ble_eq_true rfl, Nat.le_of_ble_eq_true rfl⟩ (fun r_218 hr_218 => ?_)
    subst hr_218
    have hl_218 := lw_bd (v := (shr y 4)) (n := 3) (by decide)
    refine lv_iload_n (pc := 221) hx hb dL_act_221 rfl (lv_at hl 2 rfl) ?_
    refine lv_bipush (pc := 222) (v := zI 6) hx hb dL_act_222 zc_bipush_6 ?_
    refine zr_ishr (pc := 224) (d := shr y 6) hx hb dL_act_224 (zi_sr _ _) ?_
    refine lv_iconst (pc := 225) (v := zI 3) hx hb dL_act_225 rfl ?_
    refine zr_si (pc := 226) (As := [.int (zI (shr y 6)), .int (zI (3))]) (rest := [.int (zI (lw (shr y 4) 3)), .ref (ad 120)]) S (ct_L_low l D cI cT (shr y 6) 3 (by decide) (by decide)) (va_cwS 2 hts gL_act_L_low rfl rfl rfl (by decide +kernel) ⟨Nat.le_of_ble_eq_true rfl, Nat.le_of_ble_eq_true rfl⟩) zs0 hK trivial rfl hl.1 rfl (Nat.le_of_ble_eq_true rfl) dL_act_226 ⟨Nat.le_of_ble_eq_true rfl, Nat.le_of_ble_eq_true rfl⟩ (fun r_226 hr_226 => ?_)
    subst hr_226
    have hl_226 := lw_bd (v := (shr y 6)) (n := 3) (by decide)
    refine lv_iload_n (pc := 229) hx hb dL_act_229 rfl (lv_at hl 2 rfl) ?_
    refine lv_bipush (pc := 230) (v := zI 8) hx hb dL_act_230 zc_bipush_8 ?_
    refine zr_ishr (pc := 232) (d := shr y 8) hx hb dL_act_232 (zi_sr _ _) ?_
    refine lv_bipush (pc := 233) (v := zI 21) hx hb dL_act_233 zc_bipush_21 ?_
    refine zr_si (pc := 235) (As := [.int (zI (shr y 8)), .int (zI (21))]) (rest := [.int (zI (lw (shr y 6) 3)), .int (zI (lw (shr y 4) 3)), .ref (ad 120)]) S (ct_L_low l D cI cT (shr y 8) 21 (by decide) (by decide)) (va_cwS 2 hts gL_act_L_low rfl rfl rfl (by decide +kernel) ⟨Nat.le_of_ble_eq_true rfl, Nat.le_of_ble_eq_true rfl⟩) zs0 hK trivial rfl hl.1 rfl (Nat.le_of_ble_eq_true rfl) dL_act_235 ⟨Nat.le_of_ble_eq_true rfl, Nat.le_of_ble_eq_true rfl⟩ (fun r_235 hr_235 => ?_)
    subst hr_235
    have hl_235 := lw_bd (v := (shr y 8)) (n := 21) (by decide)
    refine lv_bipush (pc := 238) (v := zI 10) hx hb dL_act_238 zc_bipush_10 ?_
    refine zr_isub (pc := 240) (d := (lw (shr y 8) 21) - 10) hx hb dL_act_240 rfl ?_
    refine zr_vwi (pc := 241) (As := [.int (zI (lw (shr y 4) 3)), .int (zI (lw (shr y 6) 3)), .int (zI ((lw (shr y 8) 21) - 10))]) (rest := []) S (ct_X7_alter l D cI cT H.size ad σ g hR hI σs n m hs tl tx rd rp hn hm hC hJ7 (lw (shr y 4) 3) (lw (shr y 6) 3) ((lw (shr y 8) 21) - 10) (by omega) (by omega) (by omega)) (cwV 3 hts gL_act_X7_alter rfl rfl rfl (by decide +kernel) ⟨Nat.le_of_ble_eq_true rfl, Nat.le_of_ble_eq_true rfl⟩) zs0 hK ⟨hP, hH1, hH2, hQ, hY⟩ (zr_recv hK hY.1 rfl) hS (fun q h => by rw [← hAe, ← hHe]; exact h) rfl hl.1 rfl (Nat.le_of_ble_eq_true rfl) dL_act_241 ⟨Nat.le_of_ble_eq_true rfl, Nat.le_of_ble_eq_true rfl⟩ (fun r_241 H locs hG hz hk hS => ?_)
    obtain ⟨σ', σs', g', n', m', hs', k1, k2, k3⟩ := hG
    exact W.iret (v := r_241) hx hb hr (fun tz ht hW => ⟨⟨r_241, r_241, rfl, rfl, by dsimp only; rw [ht]; exact ⟨σ', σs', g', n', m', hs', k1, by rw [actT_4 (by omega)]; exact k2, k3⟩⟩, hS.F ht⟩) hS.2.2 dL_act_244
  have n4_8 := c_8
  by_cases c_8 : nd y 15 = 5
  · refine lv_tableIn (tgt := 215) (off := 207) hx hb dL_act_8 (by rw [zi_toInt rg_8, c_8]; decide) (by rw [zi_toInt rg_8, c_8]; decide) (by rw [zi_toInt rg_8, c_8]; rfl) (by decide) ?_
    refine lv_aload_n (pc := 215) hx hb dL_act_215 rfl (lv_at hl 1 rfl) ?_
    refine lv_iload_n (pc := 216) hx hb dL_act_216 rfl (lv_at hl 0 rfl) ?_
    refine lv_iconst (pc := 217) (v := zI 3) hx hb dL_act_217 rfl ?_
    refine zr_si (pc := 218) (As := [.int (zI (shr y 4)), .int (zI (3))]) (rest := [.ref (ad 120)]) S (ct_L_low l D cI cT (shr y 4) 3 (by decide) (by decide)) (va_cwS 2 hts gL_act_L_low rfl rfl rfl (by decide +kernel) ⟨Nat.le_of_ble_eq_true rfl, Nat.le_of_ble_eq_true rfl⟩) zs0 hK trivial rfl hl.1 rfl (Nat.le_of_ble_eq_true rfl) dL_act_218 ⟨Nat.le_of_ble_eq_true rfl, Nat.le_of_ble_eq_true rfl⟩ (fun r_218 hr_218 => ?_)
    subst hr_218
    have hl_218 := lw_bd (v := (shr y 4)) (n := 3) (by decide)
    refine lv_iload_n (pc := 221) hx hb dL_act_221 rfl (lv_at hl 2 rfl) ?_
    refine lv_bipush (pc := 222) (v := zI 6) hx hb dL_act_222 zc_bipush_6 ?_
    refine zr_ishr (pc := 224) (d := shr y 6) hx hb dL_act_224 (zi_sr _ _) ?_
    refine lv_iconst (pc := 225) (v := zI 3) hx hb dL_act_225 rfl ?_
    refine zr_si (pc := 226) (As := [.int (zI (shr y 6)), .int (zI (3))]) (rest := [.int (zI (lw (shr y 4) 3)), .ref (ad 120)]) S (ct_L_low l D cI cT (shr y 6) 3 (by decide) (by decide)) (va_cwS 2 hts gL_act_L_low rfl rfl rfl (by decide +kernel) ⟨Nat.le_of_ble_eq_true rfl, Nat.le_of_ble_eq_true rfl⟩) zs0 hK trivial rfl hl.1 rfl (Nat.le_of_ble_eq_true rfl) dL_act_226 ⟨Nat.le_of_ble_eq_true rfl, Nat.le_of_ble_eq_true rfl⟩ (fun r_226 hr_226 => ?_)
    subst hr_226
    have hl_226 := lw_bd (v := (shr y 6)) (n := 3) (by decide)
    refine lv_iload_n (pc := 229) hx hb dL_act_229 rfl (lv_at hl 2 rfl) ?_
    refine lv_bipush (pc := 230) (v := zI 8) hx hb dL_act_230 zc_bipush_8 ?_
    refine zr_ishr (pc := 232) (d := shr y 8) hx hb dL_act_232 (zi_sr _ _) ?_
    refine lv_bipush (pc := 233) (v := zI 21) hx hb dL_act_233 zc_bipush_21 ?_
    refine zr_si (pc := 235) (As := [.int (zI (shr y 8)), .int (zI (21))]) (rest := [.int (zI (lw (shr y 6) 3)), .int (zI (lw (shr y 4) 3)), .ref (ad 120)]) S (ct_L_low l D cI cT (shr y 8) 21 (by decide) (by decide)) (va_cwS 2 hts gL_act_L_low rfl rfl rfl (by decide +kernel) ⟨Nat.le_of_ble_eq_true rfl, Nat.le_of_ble_eq_true rfl⟩) zs0 hK trivial rfl hl.1 rfl (Nat.le_of_ble_eq_true rfl) dL_act_235 ⟨Nat.le_of_ble_eq_true rfl, Nat.le_of_ble_eq_true rfl⟩ (fun r_235 hr_235 => ?_)
    subst hr_235
    have hl_235 := lw_bd (v := (shr y 8)) (n := 21) (by decide)
    refine lv_bipush (pc := 238) (v := zI 10) hx hb dL_act_238 zc_bipush_10 ?_
    refine zr_isub (pc := 240) (d := (lw (shr y 8) 21) - 10) hx hb dL_act_240 rfl ?_
    refine zr_vwi (pc := 241) (As := [.int (zI (lw (shr y 4) 3)), .int (zI (lw (shr y 6) 3)), .int (zI ((lw (shr y 8) 21) - 10))]) (rest := []) S (ct_X7_alter l D cI cT H.size ad σ g hR hI σs n m hs tl tx rd rp hn hm hC hJ7 (lw (shr y 4) 3) (lw (shr y 6) 3) ((lw (shr y 8) 21) - 10) (by omega) (by omega) (by omega)) (cwV 3 hts gL_act_X7_alter rfl rfl rfl (by decide +kernel) ⟨Nat.le_of_ble_eq_true rfl, Nat.le_of_ble_eq_true rfl⟩) zs0 hK ⟨hP, hH1, hH2, hQ, hY⟩ (zr_recv hK hY.1 rfl) hS (fun q h => by rw [← hAe, ← hHe]; exact h) rfl hl.1 rfl (Nat.le_of_ble_eq_true rfl) dL_act_241 ⟨Nat.le_of_ble_eq_true rfl, Nat.le_of_ble_eq_true rfl⟩ (fun r_241 H locs hG hz hk hS => ?_)
    obtain ⟨σ', σs', g', n', m', hs', k1, k2, k3⟩ := hG
    exact W.iret (v := r_241) hx hb hr (fun tz ht hW => ⟨⟨r_241, r_241, rfl, rfl, by dsimp only; rw [ht]; exact ⟨σ', σs', g', n', m', hs', k1, by rw [actT_4 (by omega)]; exact k2, k3⟩⟩, hS.F ht⟩) hS.2.2 dL_act_244
  have n5_8 := c_8
  by_cases c_8 : nd y 15 = 6
  · refine lv_tableIn (tgt := 245) (off := 237) hx hb dL_act_8 (by rw [zi_toInt rg_8, c_8]; decide) (by rw [zi_toInt rg_8, c_8]; decide) (by rw [zi_toInt rg_8, c_8]; rfl) (by decide) ?_
    refine lv_aload_n (pc := 245) hx hb dL_act_245 rfl (lv_at hl 1 rfl) ?_
    refine lv_iload_n (pc := 246) hx hb dL_act_246 rfl (lv_at hl 0 rfl) ?_
    refine lv_iconst (pc := 247) (v := zI 3) hx hb dL_act_247 rfl ?_
    refine zr_si (pc := 248) (As := [.int (zI (shr y 4)), .int (zI (3))]) (rest := [.ref (ad 120)]) S (ct_L_low l D cI cT (shr y 4) 3 (by decide) (by decide)) (va_cwS 2 hts gL_act_L_low rfl rfl rfl (by decide +kernel) ⟨Nat.le_of_ble_eq_true rfl, Nat.le_of_ble_eq_true rfl⟩) zs0 hK trivial rfl hl.1 rfl (Nat.le_of_ble_eq_true rfl) dL_act_248 ⟨Nat.le_of_ble_eq_true rfl, Nat.le_of_ble_eq_true rfl⟩ (fun r_248 hr_248 => ?_)
    subst hr_248
    have hl_248 := lw_bd (v := (shr y 4)) (n := 3) (by decide)
    refine zr_vwi (pc := 251) (As := [.int (zI (lw (shr y 4) 3))]) (rest := []) S (ct_X7_unpick l D cI cT H.size ad σ g hR hI σs n m hs tl tx rd rp hn hm hC hJ7 (lw (shr y 4) 3) (by omega)) (cwV 1 hts gL_act_X7_unpick rfl rfl rfl (by decide +kernel) ⟨Nat.le_of_ble_eq_true rfl, Nat.le_of_ble_eq_true rfl⟩) zs0 hK ⟨hP, hH1, hH2, hQ, hY⟩ (zr_recv hK hY.1 rfl) hS (fun q h => by rw [← hAe, ← hHe]; exact h) rfl hl.1 rfl (Nat.le_of_ble_eq_true rfl) dL_act_251 ⟨Nat.le_of_ble_eq_true rfl, Nat.le_of_ble_eq_true rfl⟩ (fun r_251 H locs hG hz hk hS => ?_)
    obtain ⟨σ', σs', g', n', m', hs', k1, k2, k3⟩ := hG
    exact W.iret (v := r_251) hx hb hr (fun tz ht hW => ⟨⟨r_251, r_251, rfl, rfl, by dsimp only; rw [ht]; exact ⟨σ', σs', g', n', m', hs', k1, by rw [actT_5 c_8]; exact k2, k3⟩⟩, hS.F ht⟩) hS.2.2 dL_act_254
  have n6_8 := c_8
  by_cases c_8 : nd y 15 = 7
  · refine lv_tableIn (tgt := 255) (off := 247) hx hb dL_act_8 (by rw [zi_toInt rg_8, c_8]; decide) (by rw [zi_toInt rg_8, c_8]; decide) (by rw [zi_toInt rg_8, c_8]; rfl) (by decide) ?_
    refine lv_aload_n (pc := 255) hx hb dL_act_255 rfl (lv_at hl 1 rfl) ?_
    refine lv_iload_n (pc := 256) hx hb dL_act_256 rfl (lv_at hl 0 rfl) ?_
    refine lv_bipush (pc := 257) (v := zI 12) hx hb dL_act_257 zc_bipush_12 ?_
    refine zr_si (pc := 259) (As := [.int (zI (shr y 4)), .int (zI (12))]) (rest := [.ref (ad 120)]) S (ct_L_low l D cI cT (shr y 4) 12 (by decide) (by decide)) (va_cwS 2 hts gL_act_L_low rfl rfl rfl (by decide +kernel) ⟨Nat.le_of_ble_eq_true rfl, Nat.le_of_ble_eq_true rfl⟩) zs0 hK trivial rfl hl.1 rfl (Nat.le_of_ble_eq_true rfl) dL_act_259 ⟨Nat.le_of_ble_eq_true rfl, Nat.le_of_ble_eq_true rfl⟩ (fun r_259 hr_259 => ?_)
    subst hr_259
    have hl_259 := lw_bd (v := (shr y 4)) (n := 12) (by decide)
    refine lv_iload_n (pc := 262) hx hb dL_act_262 rfl (lv_at hl 2 rfl) ?_
    refine lv_bipush (pc := 263) (v := zI 8) hx hb dL_act_263 zc_bipush_8 ?_
    refine zr_ishr (pc := 265) (d := shr y 8) hx hb dL_act_265 (zi_sr _ _) ?_
    refine lv_iconst (pc := 266) (v := zI 2) hx hb dL_act_266 rfl ?_
    refine zr_si (pc := 267) (As := [.int (zI (shr y 8)), .int (zI (2))]) (rest := [.int (zI (lw (shr y 4) 12)), .ref (ad 120)]) S (ct_L_low l D cI cT (shr y 8) 2 (by decide) (by decide)) (va_cwS 2 hts gL_act_L_low rfl rfl rfl (by decide +kernel) ⟨Nat.le_of_ble_eq_true rfl, Nat.le_of_ble_eq_true rfl⟩) zs0 hK trivial rfl hl.1 rfl (Nat.le_of_ble_eq_true rfl) dL_act_267 ⟨Nat.le_of_ble_eq_true rfl, Nat.le_of_ble_eq_true rfl⟩ (fun r_267 hr_267 => ?_)
    subst hr_267
    have hl_267 := lw_bd (v := (shr y 8)) (n := 2) (by decide)
    refine lv_iload_n (pc := 270) hx hb dL_act_270 rfl (lv_at hl 2 rfl) ?_
    refine lv_bipush (pc := 271) (v := zI 6) hx hb dL_act_271 zc_bipush_6 ?_
    refine zr_ishr (pc := 273) (d := shr y 6) hx hb dL_act_273 (zi_sr _ _) ?_
    refine lv_iconst (pc := 274) (v := zI 4) hx hb dL_act_274 rfl ?_
    refine zr_si (pc := 275) (As := [.int (zI (shr y 6)), .int (zI (4))]) (rest := [.int (zI (lw (shr y 8) 2)), .int (zI (lw (shr y 4) 12)), .ref (ad 120)]) S (ct_L_low l D cI cT (shr y 6) 4 (by decide) (by decide)) (va_cwS 2 hts gL_act_L_low rfl rfl rfl (by decide +kernel) ⟨Nat.le_of_ble_eq_true rfl, Nat.le_of_ble_eq_true rfl⟩) zs0 hK trivial rfl hl.1 rfl (Nat.le_of_ble_eq_true rfl) dL_act_275 ⟨Nat.le_of_ble_eq_true rfl, Nat.le_of_ble_eq_true rfl⟩ (fun r_275 hr_275 => ?_)
    subst hr_275
    have hl_275 := lw_bd (v := (shr y 6)) (n := 4) (by decide)
    refine lv_iconst (pc := 278) (v := zI 1) hx hb dL_act_278 rfl ?_
    refine zr_isub (pc := 279) (d := (lw (shr y 6) 4) - 1) hx hb dL_act_279 rfl ?_
    refine zr_vwi (pc := 280) (As := [.int (zI (lw (shr y 4) 12)), .int (zI (lw (shr y 8) 2)), .int (zI ((lw (shr y 6) 4) - 1))]) (rest := []) S (ct_X7_wear l D cI cT H.size ad σ g hR hI σs n m hs tl tx rd rp hn hm hC hJ7 (lw (shr y 4) 12) (lw (shr y 8) 2) ((lw (shr y 6) 4) - 1) (by omega) (by omega) (by omega)) (cwV 3 hts gL_act_X7_wear rfl rfl rfl (by decide +kernel) ⟨Nat.le_of_ble_eq_true rfl, Nat.le_of_ble_eq_true rfl⟩) zs0 hK ⟨hP, hH1, hH2, hQ, hY⟩ (zr_recv hK hY.1 rfl) hS (fun q h => by rw [← hAe, ← hHe]; exact h) rfl hl.1 rfl (Nat.le_of_ble_eq_true rfl) dL_act_280 ⟨Nat.le_of_ble_eq_true rfl, Nat.le_of_ble_eq_true rfl⟩ (fun r_280 H locs hG hz hk hS => ?_)
    obtain ⟨σ', σs', g', n', m', hs', k1, k2, k3⟩ := hG
    exact W.iret (v := r_280) hx hb hr (fun tz ht hW => ⟨⟨r_280, r_280, rfl, rfl, by dsimp only; rw [ht]; exact ⟨σ', σs', g', n', m', hs', k1, by rw [actT_6 (by omega)]; exact k2, k3⟩⟩, hS.F ht⟩) hS.2.2 dL_act_283
  have n7_8 := c_8
  by_cases c_8 : nd y 15 = 8
  · refine lv_tableIn (tgt := 255) (off := 247) hx hb dL_act_8 (by rw [zi_toInt rg_8, c_8]; decide) (by rw [zi_toInt rg_8, c_8]; decide) (by rw [zi_toInt rg_8, c_8]; rfl) (by decide) ?_
    refine lv_aload_n (pc := 255) hx hb dL_act_255 rfl (lv_at hl 1 rfl) ?_
    refine lv_iload_n (pc := 256) hx hb dL_act_256 rfl (lv_at hl 0 rfl) ?_
    refine lv_bipush (pc := 257) (v := zI 12) hx hb dL_act_257 zc_bipush_12 ?_
    refine zr_si (pc := 259) (As := [.int (zI (shr y 4)), .int (zI (12))]) (rest := [.ref (ad 120)]) S (ct_L_low l D cI cT (shr y 4) 12 (by decide) (by decide)) (va_cwS 2 hts gL_act_L_low rfl rfl rfl (by decide +kernel) ⟨Nat.le_of_ble_eq_true rfl, Nat.le_of_ble_eq_true rfl⟩) zs0 hK trivial rfl hl.1 rfl (Nat.le_of_ble_eq_true rfl) dL_act_259 ⟨Nat.le_of_ble_eq_true rfl, Nat.le_of_ble_eq_true rfl⟩ (fun r_259 hr_259 => ?_)
    subst hr_259
    have hl_259 := lw_bd (v := (shr y 4)) (n := 12) (by decide)
    refine lv_iload_n (pc := 262) hx hb dL_act_262 rfl (lv_at hl 2 rfl) ?_
    refine lv_bipush (pc := 263) (v := zI 8) hx hb dL_act_263 zc_bipush_8 ?_
    refine zr_ishr (pc := 265) (d := shr y 8) hx hb dL_act_265 (zi_sr _ _) ?_
    refine lv_iconst (pc := 266) (v := zI 2) hx hb dL_act_266 rfl ?_
    refine zr_si (pc := 267) (As := [.int (zI (shr y 8)), .int (zI (2))]) (rest := [.int (zI (lw (shr y 4) 12)), .ref (ad 120)]) S (ct_L_low l D cI cT (shr y 8) 2 (by decide) (by decide)) (va_cwS 2 hts gL_act_L_low rfl rfl rfl (by decide +kernel) ⟨Nat.le_of_ble_eq_true rfl, Nat.le_of_ble_eq_true rfl⟩) zs0 hK trivial rfl hl.1 rfl (Nat.le_of_ble_eq_true rfl) dL_act_267 ⟨Nat.le_of_ble_eq_true rfl, Nat.le_of_ble_eq_true rfl⟩ (fun r_267 hr_267 => ?_)
    subst hr_267
    have hl_267 := lw_bd (v := (shr y 8)) (n := 2) (by decide)
    refine lv_iload_n (pc := 270) hx hb dL_act_270 rfl (lv_at hl 2 rfl) ?_
    refine lv_bipush (pc := 271) (v := zI 6) hx hb dL_act_271 zc_bipush_6 ?_
    refine zr_ishr (pc := 273) (d := shr y 6) hx hb dL_act_273 (zi_sr _ _) ?_
    refine lv_iconst (pc := 274) (v := zI 4) hx hb dL_act_274 rfl ?_
    refine zr_si (pc := 275) (As := [.int (zI (shr y 6)), .int (zI (4))]) (rest := [.int (zI (lw (shr y 8) 2)), .int (zI (lw (shr y 4) 12)), .ref (ad 120)]) S (ct_L_low l D cI cT (shr y 6) 4 (by decide) (by decide)) (va_cwS 2 hts gL_act_L_low rfl rfl rfl (by decide +kernel) ⟨Nat.le_of_ble_eq_true rfl, Nat.le_of_ble_eq_true rfl⟩) zs0 hK trivial rfl hl.1 rfl (Nat.le_of_ble_eq_true rfl) dL_act_275 ⟨Nat.le_of_ble_eq_true rfl, Nat.le_of_ble_eq_true rfl⟩ (fun r_275 hr_275 => ?_)
    subst hr_275
    have hl_275 := lw_bd (v := (shr y 6)) (n := 4) (by decide)
    refine lv_iconst (pc := 278) (v := zI 1) hx hb dL_act_278 rfl ?_
    refine zr_isub (pc := 279) (d := (lw (shr y 6) 4) - 1) hx hb dL_act_279 rfl ?_
    refine zr_vwi (pc := 280) (As := [.int (zI (lw (shr y 4) 12)), .int (zI (lw (shr y 8) 2)), .int (zI ((lw (shr y 6) 4) - 1))]) (rest := []) S (ct_X7_wear l D cI cT H.size ad σ g hR hI σs n m hs tl tx rd rp hn hm hC hJ7 (lw (shr y 4) 12) (lw (shr y 8) 2) ((lw (shr y 6) 4) - 1) (by omega) (by omega) (by omega)) (cwV 3 hts gL_act_X7_wear rfl rfl rfl (by decide +kernel) ⟨Nat.le_of_ble_eq_true rfl, Nat.le_of_ble_eq_true rfl⟩) zs0 hK ⟨hP, hH1, hH2, hQ, hY⟩ (zr_recv hK hY.1 rfl) hS (fun q h => by rw [← hAe, ← hHe]; exact h) rfl hl.1 rfl (Nat.le_of_ble_eq_true rfl) dL_act_280 ⟨Nat.le_of_ble_eq_true rfl, Nat.le_of_ble_eq_true rfl⟩ (fun r_280 H locs hG hz hk hS => ?_)
    obtain ⟨σ', σs', g', n', m', hs', k1, k2, k3⟩ := hG
    exact W.iret (v := r_280) hx hb hr (fun tz ht hW => ⟨⟨r_280, r_280, rfl, rfl, by dsimp only; rw [ht]; exact ⟨σ', σs', g', n', m', hs', k1, by rw [actT_6 (by omega)]; exact k2, k3⟩⟩, hS.F ht⟩) hS.2.2 dL_act_283
  have n8_8 := c_8
  by_cases c_8 : nd y 15 = 9
  · refine lv_tableIn (tgt := 255) (off := 247) hx hb dL_act_8 (by rw [zi_toInt rg_8, c_8]; decide) (by rw [zi_toInt rg_8, c_8]; decide) (by rw [zi_toInt rg_8, c_8]; rfl) (by decide) ?_
    refine lv_aload_n (pc := 255) hx hb dL_act_255 rfl (lv_at hl 1 rfl) ?_
    refine lv_iload_n (pc := 256) hx hb dL_act_256 rfl (lv_at hl 0 rfl) ?_
    refine lv_bipush (pc := 257) (v := zI 12) hx hb dL_act_257 zc_bipush_12 ?_
    refine zr_si (pc := 259) (As := [.int (zI (shr y 4)), .int (zI (12))]) (rest := [.ref (ad 120)]) S (ct_L_low l D cI cT (shr y 4) 12 (by decide) (by decide)) (va_cwS 2 hts gL_act_L_low rfl rfl rfl (by decide +kernel) ⟨Nat.le_of_ble_eq_true rfl, Nat.le_of_ble_eq_true rfl⟩) zs0 hK trivial rfl hl.1 rfl (Nat.le_of_ble_eq_true rfl) dL_act_259 ⟨Nat.le_of_ble_eq_true rfl, Nat.le_of_ble_eq_true rfl⟩ (fun r_259 hr_259 => ?_)
    subst hr_259
    have hl_259 := lw_bd (v := (shr y 4)) (n := 12) (by decide)
    refine lv_iload_n (pc := 262) hx hb dL_act_262 rfl (lv_at hl 2 rfl) ?_
    refine lv_bipush (pc := 263) (v := zI 8) hx hb dL_act_263 zc_bipush_8 ?_
    refine zr_ishr (pc := 265) (d := shr y 8) hx hb dL_act_265 (zi_sr _ _) ?_
    refine lv_iconst (pc := 266) (v := zI 2) hx hb dL_act_266 rfl ?_
    refine zr_si (pc := 267) (As := [.int (zI (shr y 8)), .int (zI (2))]) (rest := [.int (zI (lw (shr y 4) 12)), .ref (ad 120)]) S (ct_L_low l D cI cT (shr y 8) 2 (by decide) (by decide)) (va_cwS 2 hts gL_act_L_low rfl rfl rfl (by decide +kernel) ⟨Nat.le_of_ble_eq_true rfl, Nat.le_of_ble_eq_true rfl⟩) zs0 hK trivial rfl hl.1 rfl (Nat.le_of_ble_eq_true rfl) dL_act_267 ⟨Nat.le_of_ble_eq_true rfl, Nat.le_of_ble_eq_true rfl⟩ (fun r_267 hr_267 => ?_)
    subst hr_267
    have hl_267 := lw_bd (v := (shr y 8)) (n := 2) (by decide)
    refine lv_iload_n (pc := 270) hx hb dL_act_270 rfl (lv_at hl 2 rfl) ?_
    refine lv_bipush (pc := 271) (v := zI 6) hx hb dL_act_271 zc_bipush_6 ?_
    refine zr_ishr (pc := 273) (d := shr y 6) hx hb dL_act_273 (zi_sr _ _) ?_
    refine lv_iconst (pc := 274) (v := zI 4) hx hb dL_act_274 rfl ?_
    refine zr_si (pc := 275) (As := [.int (zI (shr y 6)), .int (zI (4))]) (rest := [.int (zI (lw (shr y 8) 2)), .int (zI (lw (shr y 4) 12)), .ref (ad 120)]) S (ct_L_low l D cI cT (shr y 6) 4 (by decide) (by decide)) (va_cwS 2 hts gL_act_L_low rfl rfl rfl (by decide +kernel) ⟨Nat.le_of_ble_eq_true rfl, Nat.le_of_ble_eq_true rfl⟩) zs0 hK trivial rfl hl.1 rfl (Nat.le_of_ble_eq_true rfl) dL_act_275 ⟨Nat.le_of_ble_eq_true rfl, Nat.le_of_ble_eq_true rfl⟩ (fun r_275 hr_275 => ?_)
    subst hr_275
    have hl_275 := lw_bd (v := (shr y 6)) (n := 4) (by decide)
    refine lv_iconst (pc := 278) (v := zI 1) hx hb dL_act_278 rfl ?_
    refine zr_isub (pc := 279) (d := (lw (shr y 6) 4) - 1) hx hb dL_act_279 rfl ?_
    refine zr_vwi (pc := 280) (As := [.int (zI (lw (shr y 4) 12)), .int (zI (lw (shr y 8) 2)), .int (zI ((lw (shr y 6) 4) - 1))]) (rest := []) S (ct_X7_wear l D cI cT H.size ad σ g hR hI σs n m hs tl tx rd rp hn hm hC hJ7 (lw (shr y 4) 12) (lw (shr y 8) 2) ((lw (shr y 6) 4) - 1) (by omega) (by omega) (by omega)) (cwV 3 hts gL_act_X7_wear rfl rfl rfl (by decide +kernel) ⟨Nat.le_of_ble_eq_true rfl, Nat.le_of_ble_eq_true rfl⟩) zs0 hK ⟨hP, hH1, hH2, hQ, hY⟩ (zr_recv hK hY.1 rfl) hS (fun q h => by rw [← hAe, ← hHe]; exact h) rfl hl.1 rfl (Nat.le_of_ble_eq_true rfl) dL_act_280 ⟨Nat.le_of_ble_eq_true rfl, Nat.le_of_ble_eq_true rfl⟩ (fun r_280 H locs hG hz hk hS => ?_)
    obtain ⟨σ', σs', g', n', m', hs', k1, k2, k3⟩ := hG
    exact W.iret (v := r_280) hx hb hr (fun tz ht hW => ⟨⟨r_280, r_280, rfl, rfl, by dsimp only; rw [ht]; exact ⟨σ', σs', g', n', m', hs', k1, by rw [actT_6 (by omega)]; exact k2, k3⟩⟩, hS.F ht⟩) hS.2.2 dL_act_283
  have n9_8 := c_8
  by_cases c_8 : nd y 15 = 10
  · refine lv_tableIn (tgt := 284) (off := 276) hx hb dL_act_8 (by rw [zi_toInt rg_8, c_8]; decide) (by rw [zi_toInt rg_8, c_8]; decide) (by rw [zi_toInt rg_8, c_8]; rfl) (by decide) ?_
    refine lv_aload_n (pc := 284) hx hb dL_act_284 rfl (lv_at hl 1 rfl) ?_
    refine zr_vwi (pc := 285) (As := []) (rest := []) S (ct_X7_perform l D cI cT H.size ad σ g hR hI σs n m hs tl tx rd rp hn hm hC hJ7  ) (cwV 0 hts gL_act_X7_perform rfl rfl rfl (by decide +kernel) ⟨Nat.le_of_ble_eq_true rfl, Nat.le_of_ble_eq_true rfl⟩) zs0 hK ⟨hP, hH1, hH2, hQ, hY⟩ (zr_recv hK hY.1 rfl) hS (fun q h => by rw [← hAe, ← hHe]; exact h) rfl hl.1 rfl (Nat.le_of_ble_eq_true rfl) dL_act_285 ⟨Nat.le_of_ble_eq_true rfl, Nat.le_of_ble_eq_true rfl⟩ (fun r_285 H locs hG hz hk hS => ?_)
    obtain ⟨σ', σs', g', n', m', hs', k1, k2, k3⟩ := hG
    exact W.iret (v := r_285) hx hb hr (fun tz ht hW => ⟨⟨r_285, r_285, rfl, rfl, by dsimp only; rw [ht]; exact ⟨σ', σs', g', n', m', hs', k1, by rw [actT_7 c_8]; exact k2, k3⟩⟩, hS.F ht⟩) hS.2.2 dL_act_288
  have n10_8 := c_8
  by_cases c_8 : nd y 15 = 11
  · refine lv_tableIn (tgt := 289) (off := 281) hx hb dL_act_8 (by rw [zi_toInt rg_8, c_8]; decide) (by rw [zi_toInt rg_8, c_8]; decide) (by rw [zi_toInt rg_8, c_8]; rfl) (by decide) ?_
    refine lv_aload_n (pc := 289) hx hb dL_act_289 rfl (lv_at hl 1 rfl) ?_
    refine lv_iconst (pc := 290) (v := zI 1) hx hb dL_act_290 rfl ?_
    refine lv_iload_n (pc := 291) hx hb dL_act_291 rfl (lv_at hl 0 rfl) ?_
    refine lv_bipush (pc := 292) (v := zI 10) hx hb dL_act_292 zc_bipush_10 ?_
    refine zr_si (pc := 294) (As := [.int (zI (shr y 4)), .int (zI (10))]) (rest := [.int (zI (1)), .ref (ad 120)]) S (ct_L_low l D cI cT (shr y 4) 10 (by decide) (by decide)) (va_cwS 2 hts gL_act_L_low rfl rfl rfl (by decide +kernel) ⟨Nat.le_of_ble_eq_true rfl, Nat.le_of_ble_eq_true rfl⟩) zs0 hK trivial rfl hl.1 rfl (Nat.le_of_ble_eq_true rfl) dL_act_294 ⟨Nat.le_of_ble_eq_true rfl, Nat.le_of_ble_eq_true rfl⟩ (fun r_294 hr_294 => ?_)
    subst hr_294
    have hl_294 := lw_bd (v := (shr y 4)) (n := 10) (by decide)
    refine zr_iadd (pc := 297) (d := 1 + (lw (shr y 4) 10)) hx hb dL_act_297 rfl ?_
    refine zr_vwi (pc := 298) (As := [.int (zI (1 + (lw (shr y 4) 10)))]) (rest := []) S (ct_X7_pass l D cI cT H.size ad σ g hR hI σs n m hs tl tx rd rp hn hm hC hJ7 (1 + (lw (shr y 4) 10)) (by omega)) (cwV 1 hts gL_act_X7_pass rfl rfl rfl (by decide +kernel) ⟨Nat.le_of_ble_eq_true rfl, Nat.le_of_ble_eq_true rfl⟩) zs0 hK ⟨hP, hH1, hH2, hQ, hY⟩ (zr_recv hK hY.1 rfl) hS (fun q h => by rw [← hAe, ← hHe]; exact h) rfl hl.1 rfl (Nat.le_of_ble_eq_true rfl) dL_act_298 ⟨Nat.le_of_ble_eq_true rfl, Nat.le_of_ble_eq_true rfl⟩ (fun r_298 H locs hG hz hk hS => ?_)
    obtain ⟨σ', σs', g', n', m', hs', k1, k2, k3⟩ := hG
    exact W.iret (v := r_298) hx hb hr (fun tz ht hW => ⟨⟨r_298, r_298, rfl, rfl, by dsimp only; rw [ht]; exact ⟨σ', σs', g', n', m', hs', k1, by rw [actT_8 c_8]; exact k2, k3⟩⟩, hS.F ht⟩) hS.2.2 dL_act_301
  have n11_8 := c_8
  by_cases c_8 : nd y 15 = 12
  · refine lv_tableIn (tgt := 302) (off := 294) hx hb dL_act_8 (by rw [zi_toInt rg_8, c_8]; decide) (by rw [zi_toInt rg_8, c_8]; decide) (by rw [zi_toInt rg_8, c_8]; rfl) (by decide) ?_
    refine lv_aload_n (pc := 302) hx hb dL_act_302 rfl (lv_at hl 1 rfl) ?_
    refine lv_iload_n (pc := 303) hx hb dL_act_303 rfl (lv_at hl 0 rfl) ?_
    refine lv_iconst (pc := 304) (v := zI 3) hx hb dL_act_304 rfl ?_
    refine zr_si (pc := 305) (As := [.int (zI (shr y 4)), .int (zI (3))]) (rest := [.ref (ad 120)]) S (ct_L_low l D cI cT (shr y 4) 3 (by decide) (by decide)) (va_cwS 2 hts gL_act_L_low rfl rfl rfl (by decide +kernel) ⟨Nat.le_of_ble_eq_true rfl, Nat.le_of_ble_eq_true rfl⟩) zs0 hK trivial rfl hl.1 rfl (Nat.le_of_ble_eq_true rfl) dL_act_305 ⟨Nat.le_of_ble_eq_true rfl, Nat.le_of_ble_eq_true rfl⟩ (fun r_305 hr_305 => ?_)
    subst hr_305
    have hl_305 := lw_bd (v := (shr y 4)) (n := 3) (by decide)
    refine lv_aload_n (pc := 308) hx hb dL_act_308 rfl (lv_at hl 1 rfl) ?_
    refine lv_iconst (pc := 309) (v := zI 3) hx hb dL_act_309 rfl ?_
    refine zr_vi (pc := 310) (As := [.int (zI (3))]) (rest := [.int (zI (lw (shr y 4) 3)), .ref (ad 120)]) S (ct_X7_count l D cI cT ad σ g hR hI n m tl tx rd rp 3 (by decide)) (cwV 1 hts gL_act_X7_count rfl rfl rfl (by decide +kernel) ⟨Nat.le_of_ble_eq_true rfl, Nat.le_of_ble_eq_true rfl⟩) zs0 hK ⟨hP, hH1, hY⟩ (zr_recv hK hY.1 rfl) rfl hl.1 rfl (Nat.le_of_ble_eq_true rfl) dL_act_310 ⟨Nat.le_of_ble_eq_true rfl, Nat.le_of_ble_eq_true rfl⟩ (fun r_310 hr_310 => ?_)
    subst hr_310
    refine zr_top (b := g 3) (rfl) ?_
    refine lv_iload_n (pc := 313) hx hb dL_act_313 rfl (lv_at hl 2 rfl) ?_
    refine lv_bipush (pc := 314) (v := zI 6) hx hb dL_act_314 zc_bipush_6 ?_
    refine zr_ishr (pc := 316) (d := shr y 6) hx hb dL_act_316 (zi_sr _ _) ?_
    refine lv_bipush (pc := 317) (v := zI 8) hx hb dL_act_317 zc_bipush_8 ?_
    refine zr_si (pc := 319) (As := [.int (zI (shr y 6)), .int (zI (8))]) (rest := [.int (zI (g 3)), .int (zI (lw (shr y 4) 3)), .ref (ad 120)]) S (ct_L_low l D cI cT (shr y 6) 8 (by decide) (by decide)) (va_cwS 2 hts gL_act_L_low rfl rfl rfl (by decide +kernel) ⟨Nat.le_of_ble_eq_true rfl, Nat.le_of_ble_eq_true rfl⟩) zs0 hK trivial rfl hl.1 rfl (Nat.le_of_ble_eq_true rfl) dL_act_319 ⟨Nat.le_of_ble_eq_true rfl, Nat.le_of_ble_eq_true rfl⟩ (fun r_319 hr_319 => ?_)
    subst hr_319
    have hl_319 := lw_bd (v := (shr y 6)) (n := 8) (by decide)
    refine zr_iadd (pc := 322) (d := (g 3) + (lw (shr y 6) 8)) hx hb dL_act_322 rfl ?_
    refine lv_iconst (pc := 323) (v := zI 1) hx hb dL_act_323 rfl ?_
    refine lv_iload_n (pc := 324) hx hb dL_act_324 rfl (lv_at hl 2 rfl) ?_
    refine lv_bipush (pc := 325) (v := zI 7) hx hb dL_act_325 zc_bipush_7 ?_
    refine zr_ishr (pc := 327) (d := shr y 7) hx hb dL_act_327 (zi_sr _ _) ?_
    refine lv_bipush (pc := 328) (v := zI 12) hx hb dL_act_328 zc_bipush_12 ?_
    refine zr_si (pc := 330) (As := [.int (zI (shr y 7)), .int (zI (12))]) (rest := [.int (zI (1)), .int (zI ((g 3) + (lw (shr y 6) 8))), .int (zI (lw (shr y 4) 3)), .ref (ad 120)]) S (ct_L_low l D cI cT (shr y 7) 12 (by decide) (by decide)) (va_cwS 2 hts gL_act_L_low rfl rfl rfl (by decide +kernel) ⟨Nat.le_of_ble_eq_true rfl, Nat.le_of_ble_eq_true rfl⟩) zs0 hK trivial rfl hl.1 rfl (Nat.le_of_ble_eq_true rfl) dL_act_330 ⟨Nat.le_of_ble_eq_true rfl, Nat.le_of_ble_eq_true rfl⟩ (fun r_330 hr_330 => ?_)
    subst hr_330
    have hl_330 := lw_bd (v := (shr y 7)) (n := 12) (by decide)
    refine zr_iadd (pc := 333) (d := 1 + (lw (shr y 7) 12)) hx hb dL_act_333 rfl ?_
    refine lv_iconst (pc := 334) (v := zI 1) hx hb dL_act_334 rfl ?_
    refine lv_iload_n (pc := 335) hx hb dL_act_335 rfl (lv_at hl 2 rfl) ?_
    refine lv_iconst (pc := 336) (v := zI 5) hx hb dL_act_336 rfl ?_
    refine zr_ishr (pc := 337) (d := shr y 5) hx hb dL_act_337 (zi_sr _ _) ?_
    refine lv_bipush (pc := 338) (v := zI 20) hx hb dL_act_338 zc_bipush_20 ?_
    refine zr_si (pc := 340) (As := [.int (zI (shr y 5)), .int (zI (20))]) (rest := [.int (zI (1)), .int (zI (1 + (lw (shr y 7) 12))), .int (zI ((g 3) + (lw (shr y 6) 8))), .int (zI (lw (shr y 4) 3)), .ref (ad 120)]) S (ct_L_low l D cI cT (shr y 5) 20 (by decide) (by decide)) (va_cwS 2 hts gL_act_L_low rfl rfl rfl (by decide +kernel) ⟨Nat.le_of_ble_eq_true rfl, Nat.le_of_ble_eq_true rfl⟩) zs0 hK trivial rfl hl.1 rfl (Nat.le_of_ble_eq_true rfl) dL_act_340 ⟨Nat.le_of_ble_eq_true rfl, Nat.le_of_ble_eq_true rfl⟩ (fun r_340 hr_340 => ?_)
    subst hr_340
    have hl_340 := lw_bd (v := (shr y 5)) (n := 20) (by decide)
    refine zr_iadd (pc := 343) (d := 1 + (lw (shr y 5) 20)) hx hb dL_act_343 rfl ?_
    refine zr_vwi (pc := 344) (As := [.int (zI (lw (shr y 4) 3)), .int (zI ((g 3) + (lw (shr y 6) 8))), .int (zI (1 + (lw (shr y 7) 12))), .int (zI (1 + (lw (shr y 5) 20)))]) (rest := []) S (ct_X7_hire l D cI cT H.size ad σ g hR hI σs n m hs tl tx rd rp hn hm hC hJ7 (lw (shr y 4) 3) ((g 3) + (lw (shr y 6) 8)) (1 + (lw (shr y 7) 12)) (1 + (lw (shr y 5) 20)) (by omega) (by omega) (by omega) (by omega)) (cwV 4 hts gL_act_X7_hire rfl rfl rfl (by decide +kernel) ⟨Nat.le_of_ble_eq_true rfl, Nat.le_of_ble_eq_true rfl⟩) zs0 hK ⟨hP, hH1, hH2, hQ, hY⟩ (zr_recv hK hY.1 rfl) hS (fun q h => by rw [← hAe, ← hHe]; exact h) rfl hl.1 rfl (Nat.le_of_ble_eq_true rfl) dL_act_344 ⟨Nat.le_of_ble_eq_true rfl, Nat.le_of_ble_eq_true rfl⟩ (fun r_344 H locs hG hz hk hS => ?_)
    obtain ⟨σ', σs', g', n', m', hs', k1, k2, k3⟩ := hG
    exact W.iret (v := r_344) hx hb hr (fun tz ht hW => ⟨⟨r_344, r_344, rfl, rfl, by dsimp only; rw [ht]; exact ⟨σ', σs', g', n', m', hs', k1, by rw [actT_9 (by omega)]; exact k2, k3⟩⟩, hS.F ht⟩) hS.2.2 dL_act_347
  have n12_8 := c_8
  by_cases c_8 : nd y 15 = 13
  · refine lv_tableIn (tgt := 302) (off := 294) hx hb dL_act_8 (by rw [zi_toInt rg_8, c_8]; decide) (by rw [zi_toInt rg_8, c_8]; decide) (by rw [zi_toInt rg_8, c_8]; rfl) (by decide) ?_
    refine lv_aload_n (pc := 302) hx hb dL_act_302 rfl (lv_at hl 1 rfl) ?_
    refine lv_iload_n (pc := 303) hx hb dL_act_303 rfl (lv_at hl 0 rfl) ?_
    refine lv_iconst (pc := 304) (v := zI 3) hx hb dL_act_304 rfl ?_
    refine zr_si (pc := 305) (As := [.int (zI (shr y 4)), .int (zI (3))]) (rest := [.ref (ad 120)]) S (ct_L_low l D cI cT (shr y 4) 3 (by decide) (by decide)) (va_cwS 2 hts gL_act_L_low rfl rfl rfl (by decide +kernel) ⟨Nat.le_of_ble_eq_true rfl, Nat.le_of_ble_eq_true rfl⟩) zs0 hK trivial rfl hl.1 rfl (Nat.le_of_ble_eq_true rfl) dL_act_305 ⟨Nat.le_of_ble_eq_true rfl, Nat.le_of_ble_eq_true rfl⟩ (fun r_305 hr_305 => ?_)
    subst hr_305
    have hl_305 := lw_bd (v := (shr y 4)) (n := 3) (by decide)
    refine lv_aload_n (pc := 308) hx hb dL_act_308 rfl (lv_at hl 1 rfl) ?_
    refine lv_iconst (pc := 309) (v := zI 3) hx hb dL_act_309 rfl ?_
    refine zr_vi (pc := 310) (As := [.int (zI (3))]) (rest := [.int (zI (lw (shr y 4) 3)), .ref (ad 120)]) S (ct_X7_count l D cI cT ad σ g hR hI n m tl tx rd rp 3 (by decide)) (cwV 1 hts gL_act_X7_count rfl rfl rfl (by decide +kernel) ⟨Nat.le_of_ble_eq_true rfl, Nat.le_of_ble_eq_true rfl⟩) zs0 hK ⟨hP, hH1, hY⟩ (zr_recv hK hY.1 rfl) rfl hl.1 rfl (Nat.le_of_ble_eq_true rfl) dL_act_310 ⟨Nat.le_of_ble_eq_true rfl, Nat.le_of_ble_eq_true rfl⟩ (fun r_310 hr_310 => ?_)
    subst hr_310
    refine zr_top (b := g 3) (rfl) ?_
    refine lv_iload_n (pc := 313) hx hb dL_act_313 rfl (lv_at hl 2 rfl) ?_
    refine lv_bipush (pc := 314) (v := zI 6) hx hb dL_act_314 zc_bipush_6 ?_
    refine zr_ishr (pc := 316) (d := shr y 6) hx hb dL_act_316 (zi_sr _ _) ?_
    refine lv_bipush (pc := 317) (v := zI 8) hx hb dL_act_317 zc_bipush_8 ?_
    refine zr_si (pc := 319) (As := [.int (zI (shr y 6)), .int (zI (8))]) (rest := [.int (zI (g 3)), .int (zI (lw (shr y 4) 3)), .ref (ad 120)]) S (ct_L_low l D cI cT (shr y 6) 8 (by decide) (by decide)) (va_cwS 2 hts gL_act_L_low rfl rfl rfl (by decide +kernel) ⟨Nat.le_of_ble_eq_true rfl, Nat.le_of_ble_eq_true rfl⟩) zs0 hK trivial rfl hl.1 rfl (Nat.le_of_ble_eq_true rfl) dL_act_319 ⟨Nat.le_of_ble_eq_true rfl, Nat.le_of_ble_eq_true rfl⟩ (fun r_319 hr_319 => ?_)
    subst hr_319
    have hl_319 := lw_bd (v := (shr y 6)) (n := 8) (by decide)
    refine zr_iadd (pc := 322) (d := (g 3) + (lw (shr y 6) 8)) hx hb dL_act_322 rfl ?_
    refine lv_iconst (pc := 323) (v := zI 1) hx hb dL_act_323 rfl ?_
    refine lv_iload_n (pc := 324) hx hb dL_act_324 rfl (lv_at hl 2 rfl) ?_
    refine lv_bipush (pc := 325) (v := zI 7) hx hb dL_act_325 zc_bipush_7 ?_
    refine zr_ishr (pc := 327) (d := shr y 7) hx hb dL_act_327 (zi_sr _ _) ?_
    refine lv_bipush (pc := 328) (v := zI 12) hx hb dL_act_328 zc_bipush_12 ?_
    refine zr_si (pc := 330) (As := [.int (zI (shr y 7)), .int (zI (12))]) (rest := [.int (zI (1)), .int (zI ((g 3) + (lw (shr y 6) 8))), .int (zI (lw (shr y 4) 3)), .ref (ad 120)]) S (ct_L_low l D cI cT (shr y 7) 12 (by decide) (by decide)) (va_cwS 2 hts gL_act_L_low rfl rfl rfl (by decide +kernel) ⟨Nat.le_of_ble_eq_true rfl, Nat.le_of_ble_eq_true rfl⟩) zs0 hK trivial rfl hl.1 rfl (Nat.le_of_ble_eq_true rfl) dL_act_330 ⟨Nat.le_of_ble_eq_true rfl, Nat.le_of_ble_eq_true rfl⟩ (fun r_330 hr_330 => ?_)
    subst hr_330
    have hl_330 := lw_bd (v := (shr y 7)) (n := 12) (by decide)
    refine zr_iadd (pc := 333) (d := 1 + (lw (shr y 7) 12)) hx hb dL_act_333 rfl ?_
    refine lv_iconst (pc := 334) (v := zI 1) hx hb dL_act_334 rfl ?_
    refine lv_iload_n (pc := 335) hx hb dL_act_335 rfl (lv_at hl 2 rfl) ?_
    refine lv_iconst (pc := 336) (v := zI 5) hx hb dL_act_336 rfl ?_
    refine zr_ishr (pc := 337) (d := shr y 5) hx hb dL_act_337 (zi_sr _ _) ?_
    refine lv_bipush (pc := 338) (v := zI 20) hx hb dL_act_338 zc_bipush_20 ?_
    refine zr_si (pc := 340) (As := [.int (zI (shr y 5)), .int (zI (20))]) (rest := [.int (zI (1)), .int (zI (1 + (lw (shr y 7) 12))), .int (zI ((g 3) + (lw (shr y 6) 8))), .int (zI (lw (shr y 4) 3)), .ref (ad 120)]) S (ct_L_low l D cI cT (shr y 5) 20 (by decide) (by decide)) (va_cwS 2 hts gL_act_L_low rfl rfl rfl (by decide +kernel) ⟨Nat.le_of_ble_eq_true rfl, Nat.le_of_ble_eq_true rfl⟩) zs0 hK trivial rfl hl.1 rfl (Nat.le_of_ble_eq_true rfl) dL_act_340 ⟨Nat.le_of_ble_eq_true rfl, Nat.le_of_ble_eq_true rfl⟩ (fun r_340 hr_340 => ?_)
    subst hr_340
    have hl_340 := lw_bd (v := (shr y 5)) (n := 20) (by decide)
    refine zr_iadd (pc := 343) (d := 1 + (lw (shr y 5) 20)) hx hb dL_act_343 rfl ?_
    refine zr_vwi (pc := 344) (As := [.int (zI (lw (shr y 4) 3)), .int (zI ((g 3) + (lw (shr y 6) 8))), .int (zI (1 + (lw (shr y 7) 12))), .int (zI (1 + (lw (shr y 5) 20)))]) (rest := []) S (ct_X7_hire l D cI cT H.size ad σ g hR hI σs n m hs tl tx rd rp hn hm hC hJ7 (lw (shr y 4) 3) ((g 3) + (lw (shr y 6) 8)) (1 + (lw (shr y 7) 12)) (1 + (lw (shr y 5) 20)) (by omega) (by omega) (by omega) (by omega)) (cwV 4 hts gL_act_X7_hire rfl rfl rfl (by decide +kernel) ⟨Nat.le_of_ble_eq_true rfl, Nat.le_of_ble_eq_true rfl⟩) zs0 hK ⟨hP, hH1, hH2, hQ, hY⟩ (zr_recv hK hY.1 rfl) hS (fun q h => by rw [← hAe, ← hHe]; exact h) rfl hl.1 rfl (Nat.le_of_ble_eq_true rfl) dL_act_344 ⟨Nat.le_of_ble_eq_true rfl, Nat.le_of_ble_eq_true rfl⟩ (fun r_344 H locs hG hz hk hS => ?_)
    obtain ⟨σ', σs', g', n', m', hs', k1, k2, k3⟩ := hG
    exact W.iret (v := r_344) hx hb hr (fun tz ht hW => ⟨⟨r_344, r_344, rfl, rfl, by dsimp only; rw [ht]; exact ⟨σ', σs', g', n', m', hs', k1, by rw [actT_9 (by omega)]; exact k2, k3⟩⟩, hS.F ht⟩) hS.2.2 dL_act_347
  have n13_8 := c_8
  by_cases c_8 : nd y 15 = 14
  · refine lv_tableIn (tgt := 348) (off := 340) hx hb dL_act_8 (by rw [zi_toInt rg_8, c_8]; decide) (by rw [zi_toInt rg_8, c_8]; decide) (by rw [zi_toInt rg_8, c_8]; rfl) (by decide) ?_
    refine lv_aload_n (pc := 348) hx hb dL_act_348 rfl (lv_at hl 1 rfl) ?_
    refine lv_iload_n (pc := 349) hx hb dL_act_349 rfl (lv_at hl 0 rfl) ?_
    refine lv_iconst (pc := 350) (v := zI 3) hx hb dL_act_350 rfl ?_
    refine zr_si (pc := 351) (As := [.int (zI (shr y 4)), .int (zI (3))]) (rest := [.ref (ad 120)]) S (ct_L_low l D cI cT (shr y 4) 3 (by decide) (by decide)) (va_cwS 2 hts gL_act_L_low rfl rfl rfl (by decide +kernel) ⟨Nat.le_of_ble_eq_true rfl, Nat.le_of_ble_eq_true rfl⟩) zs0 hK trivial rfl hl.1 rfl (Nat.le_of_ble_eq_true rfl) dL_act_351 ⟨Nat.le_of_ble_eq_true rfl, Nat.le_of_ble_eq_true rfl⟩ (fun r_351 hr_351 => ?_)
    subst hr_351
    have hl_351 := lw_bd (v := (shr y 4)) (n := 3) (by decide)
    refine zr_vwi (pc := 354) (As := [.int (zI (lw (shr y 4) 3))]) (rest := []) S (ct_X7_endHire l D cI cT H.size ad σ g hR hI σs n m hs tl tx rd rp hn hm hC hJ7 (lw (shr y 4) 3) (by omega)) (cwV 1 hts gL_act_X7_endHire rfl rfl rfl (by decide +kernel) ⟨Nat.le_of_ble_eq_true rfl, Nat.le_of_ble_eq_true rfl⟩) zs0 hK ⟨hP, hH1, hH2, hQ, hY⟩ (zr_recv hK hY.1 rfl) hS (fun q h => by rw [← hAe, ← hHe]; exact h) rfl hl.1 rfl (Nat.le_of_ble_eq_true rfl) dL_act_354 ⟨Nat.le_of_ble_eq_true rfl, Nat.le_of_ble_eq_true rfl⟩ (fun r_354 H locs hG hz hk hS => ?_)
    obtain ⟨σ', σs', g', n', m', hs', k1, k2, k3⟩ := hG
    exact W.iret (v := r_354) hx hb hr (fun tz ht hW => ⟨⟨r_354, r_354, rfl, rfl, by dsimp only; rw [ht]; exact ⟨σ', σs', g', n', m', hs', k1, by rw [actT_10 c_8]; exact k2, k3⟩⟩, hS.F ht⟩) hS.2.2 dL_act_357
  have n14_8 := c_8
  refine lv_tableOut (pc := 8) (tgt := 358) hx hb dL_act_8 (by rw [zi_toInt rg_8]; omega) (by decide) ?_
  refine lv_aload_n (pc := 358) hx hb dL_act_358 rfl (lv_at hl 1 rfl) ?_
  refine lv_iload_n (pc := 359) hx hb dL_act_359 rfl (lv_at hl 0 rfl) ?_
  refine lv_iconst (pc := 360) (v := zI 4) hx hb dL_act_360 rfl ?_
  refine zr_si (pc := 361) (As := [.int (zI (shr y 4)), .int (zI (4))]) (rest := [.ref (ad 120)]) S (ct_L_low l D cI cT (shr y 4) 4 (by decide) (by decide)) (va_cwS 2 hts gL_act_L_low rfl rfl rfl (by decide +kernel) ⟨Nat.le_of_ble_eq_true rfl, Nat.le_of_ble_eq_true rfl⟩) zs0 hK trivial rfl hl.1 rfl (Nat.le_of_ble_eq_true rfl) dL_act_361 ⟨Nat.le_of_ble_eq_true rfl, Nat.le_of_ble_eq_true rfl⟩ (fun r_361 hr_361 => ?_)
  subst hr_361
  have hl_361 := lw_bd (v := (shr y 4)) (n := 4) (by decide)
  refine lv_iconst (pc := 364) (v := zI 1) hx hb dL_act_364 rfl ?_
  refine lv_iload_n (pc := 365) hx hb dL_act_365 rfl (lv_at hl 2 rfl) ?_
  refine lv_bipush (pc := 366) (v := zI 6) hx hb dL_act_366 zc_bipush_6 ?_
  refine zr_ishr (pc := 368) (d := shr y 6) hx hb dL_act_368 (zi_sr _ _) ?_
  refine lv_bipush (pc := 369) (v := zI 7) hx hb dL_act_369 zc_bipush_7 ?_
  refine zr_si (pc := 371) (As := [.int (zI (shr y 6)), .int (zI (7))]) (rest := [.int (zI (1)), .int (zI (lw (shr y 4) 4)), .ref (ad 120)]) S (ct_L_low l D cI cT (shr y 6) 7 (by decide) (by decide)) (va_cwS 2 hts gL_act_L_low rfl rfl rfl (by decide +kernel) ⟨Nat.le_of_ble_eq_true rfl, Nat.le_of_ble_eq_true rfl⟩) zs0 hK trivial rfl hl.1 rfl (Nat.le_of_ble_eq_true rfl) dL_act_371 ⟨Nat.le_of_ble_eq_true rfl, Nat.le_of_ble_eq_true rfl⟩ (fun r_371 hr_371 => ?_)
  subst hr_371
  have hl_371 := lw_bd (v := (shr y 6)) (n := 7) (by decide)
  refine zr_iadd (pc := 374) (d := 1 + (lw (shr y 6) 7)) hx hb dL_act_374 rfl ?_
  refine zr_vwi (pc := 375) (As := [.int (zI (lw (shr y 4) 4)), .int (zI (1 + (lw (shr y 6) 7)))]) (rest := []) S (ct_X7_wash l D cI cT H.size ad σ g hR hI σs n m hs tl tx rd rp hn hm hC hJ7 (lw (shr y 4) 4) (1 + (lw (shr y 6) 7)) (by omega) (by omega) bs hB) (cwV 2 hts gL_act_X7_wash rfl rfl rfl (by decide +kernel) ⟨Nat.le_of_ble_eq_true rfl, Nat.le_of_ble_eq_true rfl⟩) zs_T hK ⟨⟨hP, hH1, hH2, hQ, hY⟩, hT⟩ (zr_recv hK hY.1 rfl) hS (fun q h => by rw [← hAe, ← hHe]; exact h) rfl hl.1 rfl (Nat.le_of_ble_eq_true rfl) dL_act_375 ⟨Nat.le_of_ble_eq_true rfl, Nat.le_of_ble_eq_true rfl⟩ (fun r_375 H locs hG hz hk hS => ?_)
  obtain ⟨σ', σs', g', n', m', hs', k1, k2, k3⟩ := hG
  exact W.iret (v := r_375) hx hb hr (fun tz ht hW => ⟨⟨r_375, r_375, rfl, rfl, by dsimp only; rw [ht]; exact ⟨σ', σs', g', n', m', hs', k1, by rw [actT_11 (by omega)]; exact k2, k3⟩⟩, hS.F ht⟩) hS.2.2 dL_act_378
