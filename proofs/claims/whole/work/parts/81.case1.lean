/-! the law's cases, 0 to 8 -/
set_option maxHeartbeats 4000000 in
theorem lwc_0 {p : Program} {l : Launch} {e : Env} {s : State} {m : MethodId} {below : List Frame} {meth : Method} {c : Code} {H : Heap} {locs : List Loc} {ls : Array Slot} {Q : State → Prop} {D : va_G} {cI cT : ClassId} {b L : Nat} {xs : Nat → Int32} {ad am : Nat → Nat} {i : Int}
    (S : CallFix p m c cL_law 4 s #[Value.ref b] wsL_law RL) (hK : zK D cI cT s) (hX : va_X b L xs s s.heap) (hbl : b < s.heap.size) (hL : (L : Int) ≤ 3072) (hG : LG ad am s.heap.size) (hLI : LI D cI cT ad am s.heap.size s H) (hS : va_S (fun q => s.heap.size ≤ q) s.heap H locs)
    (hl : lv_has ls 4 [(3, .int (zI i)), (2, .ref (am 0)), (1, .ref (ad 120)), (0, .ref b)]) (i0 : 0 ≤ i) (i1 : i + 6 ≤ (L : Int))
    (next : ∀ (H1 : Heap) (locs1 : List Loc) (ls1 : Array Slot), LI D cI cT ad am s.heap.size s H1 → va_S (fun q => s.heap.size ≤ q) s.heap H1 locs1 → lv_has ls1 4 [(3, .int (zI i)), (2, .ref (am 0)), (1, .ref (ad 120)), (0, .ref b)] → W p l e room_1 s m #[Value.ref b] below meth c H1 locs1 132 7992 Q (F0 m 997 ls1 [])) :
    W p l e room_1 s m #[Value.ref b] below meth c H locs 132 7992 Q (F0 m 156 ls []) := by
  have hx := S.1
  have hb := S.2.1
  have hts := S.2.2.2.2
  obtain ⟨g, n, hs, tl, tx, hgO, ⟨σ, σs, m0, rd, rp, hR, hC, hn, hm, hP, hH1, hH2, hQ, hY⟩, ⟨μ, hM, hPm⟩, hLX⟩ := hLI
  have hI := hgO.1
  obtain ⟨t0, t1, htx⟩ := hgO.2.2
  refine lv_aload_n (pc := 156) hx hb dL_law_156 rfl (lv_at hl 2 rfl) ?_
  refine lv_aload_n (pc := 157) hx hb dL_law_157 rfl (lv_at hl 3 rfl) ?_
  refine lv_iload_n (pc := 158) hx hb dL_law_158 rfl (lv_at hl 0 rfl) ?_
  refine lv_iconst (pc := 159) (v := zI 1) hx hb dL_law_159 rfl ?_
  refine zr_iadd (pc := 160) (d := i + 1) hx hb dL_law_160 rfl ?_
  refine zr_sld (pc := 161) hx hb hX hbl (Nat.not_le.mpr hbl) hS (by omega) (by omega) (by omega) dL_law_161 ?_
  refine lv_aload_n (pc := 162) hx hb dL_law_162 rfl (lv_at hl 3 rfl) ?_
  refine lv_iload_n (pc := 163) hx hb dL_law_163 rfl (lv_at hl 0 rfl) ?_
  refine lv_iconst (pc := 164) (v := zI 2) hx hb dL_law_164 rfl ?_
  refine zr_iadd (pc := 165) (d := i + 2) hx hb dL_law_165 rfl ?_
  refine zr_sld (pc := 166) hx hb hX hbl (Nat.not_le.mpr hbl) hS (by omega) (by omega) (by omega) dL_law_166 ?_
  refine lv_aload_n (pc := 167) hx hb dL_law_167 rfl (lv_at hl 3 rfl) ?_
  refine lv_iload_n (pc := 168) hx hb dL_law_168 rfl (lv_at hl 0 rfl) ?_
  refine lv_iconst (pc := 169) (v := zI 3) hx hb dL_law_169 rfl ?_
  refine zr_iadd (pc := 170) (d := i + 3) hx hb dL_law_170 rfl ?_
  refine zr_sld (pc := 171) hx hb hX hbl (Nat.not_le.mpr hbl) hS (by omega) (by omega) (by omega) dL_law_171 ?_
  refine lv_aload_n (pc := 172) hx hb dL_law_172 rfl (lv_at hl 3 rfl) ?_
  refine lv_iload_n (pc := 173) hx hb dL_law_173 rfl (lv_at hl 0 rfl) ?_
  refine lv_iconst (pc := 174) (v := zI 4) hx hb dL_law_174 rfl ?_
  refine zr_iadd (pc := 175) (d := i + 4) hx hb dL_law_175 rfl ?_
  refine zr_sld (pc := 176) hx hb hX hbl (Nat.not_le.mpr hbl) hS (by omega) (by omega) (by omega) dL_law_176 ?_
  refine lv_aload_n (pc := 177) hx hb dL_law_177 rfl (lv_at hl 3 rfl) ?_
  refine lv_iload_n (pc := 178) hx hb dL_law_178 rfl (lv_at hl 0 rfl) ?_
  refine lv_iconst (pc := 179) (v := zI 5) hx hb dL_law_179 rfl ?_
  refine zr_iadd (pc := 180) (d := i + 5) hx hb dL_law_180 rfl ?_
  refine zr_sld (pc := 181) hx hb hX hbl (Nat.not_le.mpr hbl) hS (by omega) (by omega) (by omega) dL_law_181 ?_
  refine zr_vwi (pc := 182) (As := [.int (zI (xv xs (i + 1))), .int (zI (xv xs (i + 2))), .int (zI (xv xs (i + 3))), .int (zI (xv xs (i + 4))), .int (zI (xv xs (i + 5)))]) (rest := []) S (ct_X7_addCostume l D cI cT H.size ad σ g hR hI σs n m0 hs tl tx rd rp hn hm hC hG.1 (xv xs (i + 1)) (xv xs (i + 2)) (xv xs (i + 3)) (xv xs (i + 4)) (xv xs (i + 5)) (xv_r xs (i + 1)) (xv_r xs (i + 2)) (xv_r xs (i + 3)) (xv_r xs (i + 4)) (xv_r xs (i + 5))) (cwV 5 hts gL_law_X7_addCostume rfl rfl rfl (by decide +kernel) ⟨Nat.le_of_ble_eq_true rfl, Nat.le_of_ble_eq_true rfl⟩) zs0 hK ⟨hP, hH1, hH2, hQ, hY⟩ (zr_recv hK hY.1 rfl) hS (fun q h => h.elim (fun ⟨k, k0, e⟩ => by rw [e]; exact hG.2.2.2.1 k k0) (fun z => Nat.le_trans hS.1 z)) rfl hl.1 rfl (Nat.le_of_ble_eq_true rfl) dL_law_182 ⟨Nat.le_of_ble_eq_true rfl, Nat.le_of_ble_eq_true rfl⟩ (fun r7 H1 locs1 hG7 hz1 hk1 hS1 => ?_)
  obtain ⟨σ', σs', g', n', m', hs', ⟨hR', hC', hn', hm'⟩, ho7, hP', hH1', hH2', hQ', hY'⟩ := hG7
  have hPm1 := mW_keep hPm hG hk1
  have hLX1 := LX_k7 hLX hG hk1
  refine lv_aload_n (pc := 185) hx hb dL_law_185 rfl (lv_at hl 1 rfl) ?_
  refine lv_aload_n (pc := 186) hx hb dL_law_186 rfl (lv_at hl 3 rfl) ?_
  refine lv_iload_n (pc := 187) hx hb dL_law_187 rfl (lv_at hl 0 rfl) ?_
  refine lv_iconst (pc := 188) (v := zI 1) hx hb dL_law_188 rfl ?_
  refine zr_iadd (pc := 189) (d := i + 1) hx hb dL_law_189 rfl ?_
  refine zr_sld (pc := 190) hx hb hX hbl (Nat.not_le.mpr hbl) hS1 (by omega) (by omega) (by omega) dL_law_190 ?_
  refine lv_aload_n (pc := 191) hx hb dL_law_191 rfl (lv_at hl 3 rfl) ?_
  refine lv_iload_n (pc := 192) hx hb dL_law_192 rfl (lv_at hl 0 rfl) ?_
  refine lv_iconst (pc := 193) (v := zI 2) hx hb dL_law_193 rfl ?_
  refine zr_iadd (pc := 194) (d := i + 2) hx hb dL_law_194 rfl ?_
  refine zr_sld (pc := 195) hx hb hX hbl (Nat.not_le.mpr hbl) hS1 (by omega) (by omega) (by omega) dL_law_195 ?_
  refine lv_aload_n (pc := 196) hx hb dL_law_196 rfl (lv_at hl 3 rfl) ?_
  refine lv_iload_n (pc := 197) hx hb dL_law_197 rfl (lv_at hl 0 rfl) ?_
  refine lv_iconst (pc := 198) (v := zI 3) hx hb dL_law_198 rfl ?_
  refine zr_iadd (pc := 199) (d := i + 3) hx hb dL_law_199 rfl ?_
  refine zr_sld (pc := 200) hx hb hX hbl (Nat.not_le.mpr hbl) hS1 (by omega) (by omega) (by omega) dL_law_200 ?_
  refine lv_aload_n (pc := 201) hx hb dL_law_201 rfl (lv_at hl 3 rfl) ?_
  refine lv_iload_n (pc := 202) hx hb dL_law_202 rfl (lv_at hl 0 rfl) ?_
  refine lv_iconst (pc := 203) (v := zI 4) hx hb dL_law_203 rfl ?_
  refine zr_iadd (pc := 204) (d := i + 4) hx hb dL_law_204 rfl ?_
  refine zr_sld (pc := 205) hx hb hX hbl (Nat.not_le.mpr hbl) hS1 (by omega) (by omega) (by omega) dL_law_205 ?_
  refine lv_aload_n (pc := 206) hx hb dL_law_206 rfl (lv_at hl 3 rfl) ?_
  refine lv_iload_n (pc := 207) hx hb dL_law_207 rfl (lv_at hl 0 rfl) ?_
  refine lv_iconst (pc := 208) (v := zI 5) hx hb dL_law_208 rfl ?_
  refine zr_iadd (pc := 209) (d := i + 5) hx hb dL_law_209 rfl ?_
  refine zr_sld (pc := 210) hx hb hX hbl (Nat.not_le.mpr hbl) hS1 (by omega) (by omega) (by omega) dL_law_210 ?_
  refine zr_vwi (pc := 211) (As := [.int (zI (xv xs (i + 1))), .int (zI (xv xs (i + 2))), .int (zI (xv xs (i + 3))), .int (zI (xv xs (i + 4))), .int (zI (xv xs (i + 5)))]) (rest := [.int r7]) S (ct_X8_addCostume l D cI cT H1.size am μ g n hs tl tx hM hI hG.2.1 (xv xs (i + 1)) (xv xs (i + 2)) (xv xs (i + 3)) (xv xs (i + 4)) (xv xs (i + 5)) (xv_r xs (i + 1)) (xv_r xs (i + 2)) (xv_r xs (i + 3)) (xv_r xs (i + 4)) (xv_r xs (i + 5))) (cwV 5 hts gL_law_X8_addCostume rfl rfl rfl (by decide +kernel) ⟨Nat.le_of_ble_eq_true rfl, Nat.le_of_ble_eq_true rfl⟩) zs0 hK hPm1 (zr_recv hK (hPm1 0 (by decide)) rfl) hS1 (fun q h => h.elim (fun ⟨k, k0, e⟩ => by rw [e]; exact hG.2.2.2.2 k k0) (fun z => Nat.le_trans hS1.1 z)) rfl hl.1 rfl (Nat.le_of_ble_eq_true rfl) dL_law_211 ⟨Nat.le_of_ble_eq_true rfl, Nat.le_of_ble_eq_true rfl⟩ (fun r8 H2 locs2 hG8 hz2 hk2 hS2 => ?_)
  obtain ⟨μ', g2, n2, hs2, hM', ho8, hPm'⟩ := hG8
  obtain ⟨er, eg, en, eh⟩ := oR_u ho8 ho7
  subst er eg en eh
  have hgO2 := gOK_act ho8 hgO (fun z => ok_addC hI z)
  refine lv_icmp_eq (pc := 214) (tgt := 997) hx hb dL_law_214 (by decide) (fun _ => ?_) (fun z => absurd rfl z)
  exact next H2 locs2 ls ⟨_, _, _, _, _, hgO2, ⟨σ', σs', m', rd, rp, hR', hC', hn', hm', cW_keep ⟨hP', hH1', hH2', hQ', hY'⟩ hG hk2⟩, ⟨μ', hM', hPm'⟩, LX_k8 hLX1 hG hk2⟩ hS2 hl
set_option maxHeartbeats 4000000 in
theorem lwc_1 {p : Program} {l : Launch} {e : Env} {s : State} {m : MethodId} {below : List Frame} {meth : Method} {c : Code} {H : Heap} {locs : List Loc} {ls : Array Slot} {Q : State → Prop} {D : va_G} {cI cT : ClassId} {b L : Nat} {xs : Nat → Int32} {ad am : Nat → Nat} {i : Int}
    (S : CallFix p m c cL_law 4 s #[Value.ref b] wsL_law RL) (hK : zK D cI cT s) (hX : va_X b L xs s s.heap) (hbl : b < s.heap.size) (hL : (L : Int) ≤ 3072) (hG : LG ad am s.heap.size) (hLI : LI D cI cT ad am s.heap.size s H) (hS : va_S (fun q => s.heap.size ≤ q) s.heap H locs)
    (hl : lv_has ls 4 [(3, .int (zI i)), (2, .ref (am 0)), (1, .ref (ad 120)), (0, .ref b)]) (i0 : 0 ≤ i) (i1 : i + 6 ≤ (L : Int))
    (next : ∀ (H1 : Heap) (locs1 : List Loc) (ls1 : Array Slot), LI D cI cT ad am s.heap.size s H1 → va_S (fun q => s.heap.size ≤ q) s.heap H1 locs1 → lv_has ls1 4 [(3, .int (zI i)), (2, .ref (am 0)), (1, .ref (ad 120)), (0, .ref b)] → W p l e room_1 s m #[Value.ref b] below meth c H1 locs1 132 7992 Q (F0 m 997 ls1 [])) :
    W p l e room_1 s m #[Value.ref b] below meth c H locs 132 7992 Q (F0 m 219 ls []) := by
  have hx := S.1
  have hb := S.2.1
  have hts := S.2.2.2.2
  obtain ⟨g, n, hs, tl, tx, hgO, ⟨σ, σs, m0, rd, rp, hR, hC, hn, hm, hP, hH1, hH2, hQ, hY⟩, ⟨μ, hM, hPm⟩, hLX⟩ := hLI
  have hI := hgO.1
  obtain ⟨t0, t1, htx⟩ := hgO.2.2
  refine lv_aload_n (pc := 219) hx hb dL_law_219 rfl (lv_at hl 2 rfl) ?_
  refine lv_aload_n (pc := 220) hx hb dL_law_220 rfl (lv_at hl 3 rfl) ?_
  refine lv_iload_n (pc := 221) hx hb dL_law_221 rfl (lv_at hl 0 rfl) ?_
  refine lv_iconst (pc := 222) (v := zI 1) hx hb dL_law_222 rfl ?_
  refine zr_iadd (pc := 223) (d := i + 1) hx hb dL_law_223 rfl ?_
  refine zr_sld (pc := 224) hx hb hX hbl (Nat.not_le.mpr hbl) hS (by omega) (by omega) (by omega) dL_law_224 ?_
  refine lv_aload_n (pc := 225) hx hb dL_law_225 rfl (lv_at hl 3 rfl) ?_
  refine lv_iload_n (pc := 226) hx hb dL_law_226 rfl (lv_at hl 0 rfl) ?_
  refine lv_iconst (pc := 227) (v := zI 2) hx hb dL_law_227 rfl ?_
  refine zr_iadd (pc := 228) (d := i + 2) hx hb dL_law_228 rfl ?_
  refine zr_sld (pc := 229) hx hb hX hbl (Nat.not_le.mpr hbl) hS (by omega) (by omega) (by omega) dL_law_229 ?_
  refine zr_vwi (pc := 230) (As := [.int (zI (xv xs (i + 1))), .int (zI (xv xs (i + 2)))]) (rest := []) S (ct_X7_setColor l D cI cT H.size ad σ g hR hI σs n m0 hs tl tx rd rp hn hm hC hG.1 (xv xs (i + 1)) (xv xs (i + 2)) (xv_r xs (i + 1)) (xv_r xs (i + 2))) (cwV 2 hts gL_law_X7_setColor rfl rfl rfl (by decide +kernel) ⟨Nat.le_of_ble_eq_true rfl, Nat.le_of_ble_eq_true rfl⟩) zs0 hK ⟨hP, hH1, hH2, hQ, hY⟩ (zr_recv hK hY.1 rfl) hS (fun q h => h.elim (fun ⟨k, k0, e⟩ => by rw [e]; exact hG.2.2.2.1 k k0) (fun z => Nat.le_trans hS.1 z)) rfl hl.1 rfl (Nat.le_of_ble_eq_true rfl) dL_law_230 ⟨Nat.le_of_ble_eq_true rfl, Nat.le_of_ble_eq_true rfl⟩ (fun r7 H1 locs1 hG7 hz1 hk1 hS1 => ?_)
  obtain ⟨σ', σs', g', n', m', hs', ⟨hR', hC', hn', hm'⟩, ho7, hP', hH1', hH2', hQ', hY'⟩ := hG7
  have hPm1 := mW_keep hPm hG hk1
  have hLX1 := LX_k7 hLX hG hk1
  refine lv_aload_n (pc := 233) hx hb dL_law_233 rfl (lv_at hl 1 rfl) ?_
  refine lv_aload_n (pc := 234) hx hb dL_law_234 rfl (lv_at hl 3 rfl) ?_
  refine lv_iload_n (pc := 235) hx hb dL_law_235 rfl (lv_at hl 0 rfl) ?_
  refine lv_iconst (pc := 236) (v := zI 1) hx hb dL_law_236 rfl ?_
  refine zr_iadd (pc := 237) (d := i + 1) hx hb dL_law_237 rfl ?_
  refine zr_sld (pc := 238) hx hb hX hbl (Nat.not_le.mpr hbl) hS1 (by omega) (by omega) (by omega) dL_law_238 ?_
  refine lv_aload_n (pc := 239) hx hb dL_law_239 rfl (lv_at hl 3 rfl) ?_
  refine lv_iload_n (pc := 240) hx hb dL_law_240 rfl (lv_at hl 0 rfl) ?_
  refine lv_iconst (pc := 241) (v := zI 2) hx hb dL_law_241 rfl ?_
  refine zr_iadd (pc := 242) (d := i + 2) hx hb dL_law_242 rfl ?_
  refine zr_sld (pc := 243) hx hb hX hbl (Nat.not_le.mpr hbl) hS1 (by omega) (by omega) (by omega) dL_law_243 ?_
  refine zr_vwi (pc := 244) (As := [.int (zI (xv xs (i + 1))), .int (zI (xv xs (i + 2)))]) (rest := [.int r7]) S (ct_X8_setColor l D cI cT H1.size am μ g n hs tl tx hM hI hG.2.1 (xv xs (i + 1)) (xv xs (i + 2)) (xv_r xs (i + 1)) (xv_r xs (i + 2))) (cwV 2 hts gL_law_X8_setColor rfl rfl rfl (by decide +kernel) ⟨Nat.le_of_ble_eq_true rfl, Nat.le_of_ble_eq_true rfl⟩) zs0 hK hPm1 (zr_recv hK (hPm1 0 (by decide)) rfl) hS1 (fun q h => h.elim (fun ⟨k, k0, e⟩ => by rw [e]; exact hG.2.2.2.2 k k0) (fun z => Nat.le_trans hS1.1 z)) rfl hl.1 rfl (Nat.le_of_ble_eq_true rfl) dL_law_244 ⟨Nat.le_of_ble_eq_true rfl, Nat.le_of_ble_eq_true rfl⟩ (fun r8 H2 locs2 hG8 hz2 hk2 hS2 => ?_)
  obtain ⟨μ', g2, n2, hs2, hM', ho8, hPm'⟩ := hG8
  obtain ⟨er, eg, en, eh⟩ := oR_u ho8 ho7
  subst er eg en eh
  have hgO2 := gOK_act ho8 hgO (fun z => ok_col hI z)
  refine lv_icmp_eq (pc := 247) (tgt := 997) hx hb dL_law_247 (by decide) (fun _ => ?_) (fun z => absurd rfl z)
  exact next H2 locs2 ls ⟨_, _, _, _, _, hgO2, ⟨σ', σs', m', rd, rp, hR', hC', hn', hm', cW_keep ⟨hP', hH1', hH2', hQ', hY'⟩ hG hk2⟩, ⟨μ', hM', hPm'⟩, LX_k8 hLX1 hG hk2⟩ hS2 hl
set_option maxHeartbeats 4000000 in
theorem lwc_2 {p : Program} {l : Launch} {e : Env} {s : State} {m : MethodId} {below : List Frame} {meth : Method} {c : Code} {H : Heap} {locs : List Loc} {ls : Array Slot} {Q : State → Prop} {D : va_G} {cI cT : ClassId} {b L : Nat} {xs : Nat → Int32} {ad am : Nat → Nat} {i : Int}
    (S : CallFix p m c cL_law 4 s #[Value.ref b] wsL_law RL) (hK : zK D cI cT s) (hX : va_X b L xs s s.heap) (hbl : b < s.heap.size) (hL : (L : Int) ≤ 3072) (hG : LG ad am s.heap.size) (hLI : LI D cI cT ad am s.heap.size s H) (hS : va_S (fun q => s.heap.size ≤ q) s.heap H locs)
    (hl : lv_has ls 4 [(3, .int (zI i)), (2, .ref (am 0)), (1, .ref (ad 120)), (0, .ref b)]) (i0 : 0 ≤ i) (i1 : i + 6 ≤ (L : Int))
    (next : ∀ (H1 : Heap) (locs1 : List Loc) (ls1 : Array Slot), LI D cI cT ad am s.heap.size s H1 → va_S (fun q => s.heap.size ≤ q) s.heap H1 locs1 → lv_has ls1 4 [(3, .int (zI i)), (2, .ref (am 0)), (1, .ref (ad 120)), (0, .ref b)] → W p l e room_1 s m #[Value.ref b] below meth c H1 locs1 132 7992 Q (F0 m 997 ls1 [])) :
    W p l e room_1 s m #[Value.ref b] below meth c H locs 132 7992 Q (F0 m 252 ls []) := by
  have hx := S.1
  have hb := S.2.1
  have hts := S.2.2.2.2
  obtain ⟨g, n, hs, tl, tx, hgO, ⟨σ, σs, m0, rd, rp, hR, hC, hn, hm, hP, hH1, hH2, hQ, hY⟩, ⟨μ, hM, hPm⟩, hLX⟩ := hLI
  have hI := hgO.1
  obtain ⟨t0, t1, htx⟩ := hgO.2.2
  refine lv_aload_n (pc := 252) hx hb dL_law_252 rfl (lv_at hl 2 rfl) ?_
  refine lv_aload_n (pc := 253) hx hb dL_law_253 rfl (lv_at hl 3 rfl) ?_
  refine lv_iload_n (pc := 254) hx hb dL_law_254 rfl (lv_at hl 0 rfl) ?_
  refine lv_iconst (pc := 255) (v := zI 1) hx hb dL_law_255 rfl ?_
  refine zr_iadd (pc := 256) (d := i + 1) hx hb dL_law_256 rfl ?_
  refine zr_sld (pc := 257) hx hb hX hbl (Nat.not_le.mpr hbl) hS (by omega) (by omega) (by omega) dL_law_257 ?_
  refine lv_aload_n (pc := 258) hx hb dL_law_258 rfl (lv_at hl 3 rfl) ?_
  refine lv_iload_n (pc := 259) hx hb dL_law_259 rfl (lv_at hl 0 rfl) ?_
  refine lv_iconst (pc := 260) (v := zI 2) hx hb dL_law_260 rfl ?_
  refine zr_iadd (pc := 261) (d := i + 2) hx hb dL_law_261 rfl ?_
  refine zr_sld (pc := 262) hx hb hX hbl (Nat.not_le.mpr hbl) hS (by omega) (by omega) (by omega) dL_law_262 ?_
  refine lv_aload_n (pc := 263) hx hb dL_law_263 rfl (lv_at hl 3 rfl) ?_
  refine lv_iload_n (pc := 264) hx hb dL_law_264 rfl (lv_at hl 0 rfl) ?_
  refine lv_iconst (pc := 265) (v := zI 3) hx hb dL_law_265 rfl ?_
  refine zr_iadd (pc := 266) (d := i + 3) hx hb dL_law_266 rfl ?_
  refine zr_sld (pc := 267) hx hb hX hbl (Nat.not_le.mpr hbl) hS (by omega) (by omega) (by omega) dL_law_267 ?_
  refine zr_vwi (pc := 268) (As := [.int (zI (xv xs (i + 1))), .int (zI (xv xs (i + 2))), .int (zI (xv xs (i + 3)))]) (rest := []) S (ct_X7_addActor l D cI cT H.size ad σ g hR hI σs n m0 hs tl tx rd rp hn hm hC hG.1 (xv xs (i + 1)) (xv xs (i + 2)) (xv xs (i + 3)) (xv_r xs (i + 1)) (xv_r xs (i + 2)) (xv_r xs (i + 3))) (cwV 3 hts gL_law_X7_addActor rfl rfl rfl (by decide +kernel) ⟨Nat.le_of_ble_eq_true rfl, Nat.le_of_ble_eq_true rfl⟩) zs0 hK ⟨hP, hH1, hH2, hQ, hY⟩ (zr_recv hK hY.1 rfl) hS (fun q h => h.elim (fun ⟨k, k0, e⟩ => by rw [e]; exact hG.2.2.2.1 k k0) (fun z => Nat.le_trans hS.1 z)) rfl hl.1 rfl (Nat.le_of_ble_eq_true rfl) dL_law_268 ⟨Nat.le_of_ble_eq_true rfl, Nat.le_of_ble_eq_true rfl⟩ (fun r7 H1 locs1 hG7 hz1 hk1 hS1 => ?_)
  obtain ⟨σ', σs', g', n', m', hs', ⟨hR', hC', hn', hm'⟩, ho7, hP', hH1', hH2', hQ', hY'⟩ := hG7
  have hPm1 := mW_keep hPm hG hk1
  have hLX1 := LX_k7 hLX hG hk1
  refine lv_aload_n (pc := 271) hx hb dL_law_271 rfl (lv_at hl 1 rfl) ?_
  refine lv_aload_n (pc := 272) hx hb dL_law_272 rfl (lv_at hl 3 rfl) ?_
  refine lv_iload_n (pc := 273) hx hb dL_law_273 rfl (lv_at hl 0 rfl) ?_
  refine lv_iconst (pc := 274) (v := zI 1) hx hb dL_law_274 rfl ?_
  refine zr_iadd (pc := 275) (d := i + 1) hx hb dL_law_275 rfl ?_
  refine zr_sld (pc := 276) hx hb hX hbl (Nat.not_le.mpr hbl) hS1 (by omega) (by omega) (by omega) dL_law_276 ?_
  refine lv_aload_n (pc := 277) hx hb dL_law_277 rfl (lv_at hl 3 rfl) ?_
  refine lv_iload_n (pc := 278) hx hb dL_law_278 rfl (lv_at hl 0 rfl) ?_
  refine lv_iconst (pc := 279) (v := zI 2) hx hb dL_law_279 rfl ?_
  refine zr_iadd (pc := 280) (d := i + 2) hx hb dL_law_280 rfl ?_
  refine zr_sld (pc := 281) hx hb hX hbl (Nat.not_le.mpr hbl) hS1 (by omega) (by omega) (by omega) dL_law_281 ?_
  refine lv_aload_n (pc := 282) hx hb dL_law_282 rfl (lv_at hl 3 rfl) ?_
  refine lv_iload_n (pc := 283) hx hb dL_law_283 rfl (lv_at hl 0 rfl) ?_
  refine lv_iconst (pc := 284) (v := zI 3) hx hb dL_law_284 rfl ?_
  refine zr_iadd (pc := 285) (d := i + 3) hx hb dL_law_285 rfl ?_
  refine zr_sld (pc := 286) hx hb hX hbl (Nat.not_le.mpr hbl) hS1 (by omega) (by omega) (by omega) dL_law_286 ?_
  refine zr_vwi (pc := 287) (As := [.int (zI (xv xs (i + 1))), .int (zI (xv xs (i + 2))), .int (zI (xv xs (i + 3)))]) (rest := [.int r7]) S (ct_X8_addActor l D cI cT H1.size am μ g n hs tl tx hM hI hG.2.1 (xv xs (i + 1)) (xv xs (i + 2)) (xv xs (i + 3)) (xv_r xs (i + 1)) (xv_r xs (i + 2)) (xv_r xs (i + 3))) (cwV 3 hts gL_law_X8_addActor rfl rfl rfl (by decide +kernel) ⟨Nat.le_of_ble_eq_true rfl, Nat.le_of_ble_eq_true rfl⟩) zs0 hK hPm1 (zr_recv hK (hPm1 0 (by decide)) rfl) hS1 (fun q h => h.elim (fun ⟨k, k0, e⟩ => by rw [e]; exact hG.2.2.2.2 k k0) (fun z => Nat.le_trans hS1.1 z)) rfl hl.1 rfl (Nat.le_of_ble_eq_true rfl) dL_law_287 ⟨Nat.le_of_ble_eq_true rfl, Nat.le_of_ble_eq_true rfl⟩ (fun r8 H2 locs2 hG8 hz2 hk2 hS2 => ?_)
  obtain ⟨μ', g2, n2, hs2, hM', ho8, hPm'⟩ := hG8
  obtain ⟨er, eg, en, eh⟩ := oR_u ho8 ho7
  subst er eg en eh
  have hgO2 := gOK_act ho8 hgO (fun z => ok_addA hI z)
  refine lv_icmp_eq (pc := 290) (tgt := 997) hx hb dL_law_290 (by decide) (fun _ => ?_) (fun z => absurd rfl z)
  exact next H2 locs2 ls ⟨_, _, _, _, _, hgO2, ⟨σ', σs', m', rd, rp, hR', hC', hn', hm', cW_keep ⟨hP', hH1', hH2', hQ', hY'⟩ hG hk2⟩, ⟨μ', hM', hPm'⟩, LX_k8 hLX1 hG hk2⟩ hS2 hl
set_option maxHeartbeats 4000000 in
theorem lwc_3 {p : Program} {l : Launch} {e : Env} {s : State} {m : MethodId} {below : List Frame} {meth : Method} {c : Code} {H : Heap} {locs : List Loc} {ls : Array Slot} {Q : State → Prop} {D : va_G} {cI cT : ClassId} {b L : Nat} {xs : Nat → Int32} {ad am : Nat → Nat} {i : Int}
    (S : CallFix p m c cL_law 4 s #[Value.ref b] wsL_law RL) (hK : zK D cI cT s) (hX : va_X b L xs s s.heap) (hbl : b < s.heap.size) (hL : (L : Int) ≤ 3072) (hG : LG ad am s.heap.size) (hLI : LI D cI cT ad am s.heap.size s H) (hS : va_S (fun q => s.heap.size ≤ q) s.heap H locs)
    (hl : lv_has ls 4 [(3, .int (zI i)), (2, .ref (am 0)), (1, .ref (ad 120)), (0, .ref b)]) (i0 : 0 ≤ i) (i1 : i + 6 ≤ (L : Int))
    (next : ∀ (H1 : Heap) (locs1 : List Loc) (ls1 : Array Slot), LI D cI cT ad am s.heap.size s H1 → va_S (fun q => s.heap.size ≤ q) s.heap H1 locs1 → lv_has ls1 4 [(3, .int (zI i)), (2, .ref (am 0)), (1, .ref (ad 120)), (0, .ref b)] → W p l e room_1 s m #[Value.ref b] below meth c H1 locs1 132 7992 Q (F0 m 997 ls1 [])) :
    W p l e room_1 s m #[Value.ref b] below meth c H locs 132 7992 Q (F0 m 295 ls []) := by
  have hx := S.1
  have hb := S.2.1
  have hts := S.2.2.2.2
  obtain ⟨g, n, hs, tl, tx, hgO, ⟨σ, σs, m0, rd, rp, hR, hC, hn, hm, hP, hH1, hH2, hQ, hY⟩, ⟨μ, hM, hPm⟩, hLX⟩ := hLI
  have hI := hgO.1
  obtain ⟨t0, t1, htx⟩ := hgO.2.2
  refine lv_aload_n (pc := 295) hx hb dL_law_295 rfl (lv_at hl 2 rfl) ?_
  refine lv_aload_n (pc := 296) hx hb dL_law_296 rfl (lv_at hl 3 rfl) ?_
  refine lv_iload_n (pc := 297) hx hb dL_law_297 rfl (lv_at hl 0 rfl) ?_
  refine lv_iconst (pc := 298) (v := zI 1) hx hb dL_law_298 rfl ?_
  refine zr_iadd (pc := 299) (d := i + 1) hx hb dL_law_299 rfl ?_
  refine zr_sld (pc := 300) hx hb hX hbl (Nat.not_le.mpr hbl) hS (by omega) (by omega) (by omega) dL_law_300 ?_
  refine lv_aload_n (pc := 301) hx hb dL_law_301 rfl (lv_at hl 3 rfl) ?_
  refine lv_iload_n (pc := 302) hx hb dL_law_302 rfl (lv_at hl 0 rfl) ?_
  refine lv_iconst (pc := 303) (v := zI 2) hx hb dL_law_303 rfl ?_
  refine zr_iadd (pc := 304) (d := i + 2) hx hb dL_law_304 rfl ?_
  refine zr_sld (pc := 305) hx hb hX hbl (Nat.not_le.mpr hbl) hS (by omega) (by omega) (by omega) dL_law_305 ?_
  refine zr_vwi (pc := 306) (As := [.int (zI (xv xs (i + 1))), .int (zI (xv xs (i + 2)))]) (rest := []) S (ct_X7_set l D cI cT H.size ad σ g hR hI σs n m0 hs tl tx rd rp hn hm hC hG.1 (xv xs (i + 1)) (xv xs (i + 2)) (xv_r xs (i + 1)) (xv_r xs (i + 2))) (cwV 2 hts gL_law_X7_set rfl rfl rfl (by decide +kernel) ⟨Nat.le_of_ble_eq_true rfl, Nat.le_of_ble_eq_true rfl⟩) zs0 hK ⟨hP, hH1, hH2, hQ, hY⟩ (zr_recv hK hY.1 rfl) hS (fun q h => h.elim (fun ⟨k, k0, e⟩ => by rw [e]; exact hG.2.2.2.1 k k0) (fun z => Nat.le_trans hS.1 z)) rfl hl.1 rfl (Nat.le_of_ble_eq_true rfl) dL_law_306 ⟨Nat.le_of_ble_eq_true rfl, Nat.le_of_ble_eq_true rfl⟩ (fun r7 H1 locs1 hG7 hz1 hk1 hS1 => ?_)
  obtain ⟨σ', σs', g', n', m', hs', ⟨hR', hC', hn', hm'⟩, ho7, hP', hH1', hH2', hQ', hY'⟩ := hG7
  have hPm1 := mW_keep hPm hG hk1
  have hLX1 := LX_k7 hLX hG hk1
  refine lv_aload_n (pc := 309) hx hb dL_law_309 rfl (lv_at hl 1 rfl) ?_
  refine lv_aload_n (pc := 310) hx hb dL_law_310 rfl (lv_at hl 3 rfl) ?_
  refine lv_iload_n (pc := 311) hx hb dL_law_311 rfl (lv_at hl 0 rfl) ?_
  refine lv_iconst (pc := 312) (v := zI 1) hx hb dL_law_312 rfl ?_
  refine zr_iadd (pc := 313) (d := i + 1) hx hb dL_law_313 rfl ?_
  refine zr_sld (pc := 314) hx hb hX hbl (Nat.not_le.mpr hbl) hS1 (by omega) (by omega) (by omega) dL_law_314 ?_
  refine lv_aload_n (pc := 315) hx hb dL_law_315 rfl (lv_at hl 3 rfl) ?_
  refine lv_iload_n (pc := 316) hx hb dL_law_316 rfl (lv_at hl 0 rfl) ?_
  refine lv_iconst (pc := 317) (v := zI 2) hx hb dL_law_317 rfl ?_
  refine zr_iadd (pc := 318) (d := i + 2) hx hb dL_law_318 rfl ?_
  refine zr_sld (pc := 319) hx hb hX hbl (Nat.not_le.mpr hbl) hS1 (by omega) (by omega) (by omega) dL_law_319 ?_
  refine zr_vwi (pc := 320) (As := [.int (zI (xv xs (i + 1))), .int (zI (xv xs (i + 2)))]) (rest := [.int r7]) S (ct_X8_set l D cI cT H1.size am μ g n hs tl tx hM hI hG.2.1 (xv xs (i + 1)) (xv xs (i + 2)) (xv_r xs (i + 1)) (xv_r xs (i + 2))) (cwV 2 hts gL_law_X8_set rfl rfl rfl (by decide +kernel) ⟨Nat.le_of_ble_eq_true rfl, Nat.le_of_ble_eq_true rfl⟩) zs0 hK hPm1 (zr_recv hK (hPm1 0 (by decide)) rfl) hS1 (fun q h => h.elim (fun ⟨k, k0, e⟩ => by rw [e]; exact hG.2.2.2.2 k k0) (fun z => Nat.le_trans hS1.1 z)) rfl hl.1 rfl (Nat.le_of_ble_eq_true rfl) dL_law_320 ⟨Nat.le_of_ble_eq_true rfl, Nat.le_of_ble_eq_true rfl⟩ (fun r8 H2 locs2 hG8 hz2 hk2 hS2 => ?_)
  obtain ⟨μ', g2, n2, hs2, hM', ho8, hPm'⟩ := hG8
  obtain ⟨er, eg, en, eh⟩ := oR_u ho8 ho7
  subst er eg en eh
  have hgO2 := gOK_act ho8 hgO (fun z => ok_set hI z)
  refine lv_icmp_eq (pc := 323) (tgt := 997) hx hb dL_law_323 (by decide) (fun _ => ?_) (fun z => absurd rfl z)
  exact next H2 locs2 ls ⟨_, _, _, _, _, hgO2, ⟨σ', σs', m', rd, rp, hR', hC', hn', hm', cW_keep ⟨hP', hH1', hH2', hQ', hY'⟩ hG hk2⟩, ⟨μ', hM', hPm'⟩, LX_k8 hLX1 hG hk2⟩ hS2 hl
set_option maxHeartbeats 4000000 in
theorem lwc_4 {p : Program} {l : Launch} {e : Env} {s : State} {m : MethodId} {below : List Frame} {meth : Method} {c : Code} {H : Heap} {locs : List Loc} {ls : Array Slot} {Q : State → Prop} {D : va_G} {cI cT : ClassId} {b L : Nat} {xs : Nat → Int32} {ad am : Nat → Nat} {i : Int}
    (S : CallFix p m c cL_law 4 s #[Value.ref b] wsL_law RL) (hK : zK D cI cT s) (hX : va_X b L xs s s.heap) (hbl : b < s.heap.size) (hL : (L : Int) ≤ 3072) (hG : LG ad am s.heap.size) (hLI : LI D cI cT ad am s.heap.size s H) (hS : va_S (fun q => s.heap.size ≤ q) s.heap H locs)
    (hl : lv_has ls 4 [(3, .int (zI i)), (2, .ref (am 0)), (1, .ref (ad 120)), (0, .ref b)]) (i0 : 0 ≤ i) (i1 : i + 6 ≤ (L : Int))
    (next : ∀ (H1 : Heap) (locs1 : List Loc) (ls1 : Array Slot), LI D cI cT ad am s.heap.size s H1 → va_S (fun q => s.heap.size ≤ q) s.heap H1 locs1 → lv_has ls1 4 [(3, .int (zI i)), (2, .ref (am 0)), (1, .ref (ad 120)), (0, .ref b)] → W p l e room_1 s m #[Value.ref b] below meth c H1 locs1 132 7992 Q (F0 m 997 ls1 [])) :
    W p l e room_1 s m #[Value.ref b] below meth c H locs 132 7992 Q (F0 m 328 ls []) := by
  have hx := S.1
  have hb := S.2.1
  have hts := S.2.2.2.2
  obtain ⟨g, n, hs, tl, tx, hgO, ⟨σ, σs, m0, rd, rp, hR, hC, hn, hm, hP, hH1, hH2, hQ, hY⟩, ⟨μ, hM, hPm⟩, hLX⟩ := hLI
  have hI := hgO.1
  obtain ⟨t0, t1, htx⟩ := hgO.2.2
  refine lv_aload_n (pc := 328) hx hb dL_law_328 rfl (lv_at hl 2 rfl) ?_
  refine lv_aload_n (pc := 329) hx hb dL_law_329 rfl (lv_at hl 3 rfl) ?_
  refine lv_iload_n (pc := 330) hx hb dL_law_330 rfl (lv_at hl 0 rfl) ?_
  refine lv_iconst (pc := 331) (v := zI 1) hx hb dL_law_331 rfl ?_
  refine zr_iadd (pc := 332) (d := i + 1) hx hb dL_law_332 rfl ?_
  refine zr_sld (pc := 333) hx hb hX hbl (Nat.not_le.mpr hbl) hS (by omega) (by omega) (by omega) dL_law_333 ?_
  refine lv_aload_n (pc := 334) hx hb dL_law_334 rfl (lv_at hl 3 rfl) ?_
  refine lv_iload_n (pc := 335) hx hb dL_law_335 rfl (lv_at hl 0 rfl) ?_
  refine lv_iconst (pc := 336) (v := zI 2) hx hb dL_law_336 rfl ?_
  refine zr_iadd (pc := 337) (d := i + 2) hx hb dL_law_337 rfl ?_
  refine zr_sld (pc := 338) hx hb hX hbl (Nat.not_le.mpr hbl) hS (by omega) (by omega) (by omega) dL_law_338 ?_
  refine lv_aload_n (pc := 339) hx hb dL_law_339 rfl (lv_at hl 3 rfl) ?_
  refine lv_iload_n (pc := 340) hx hb dL_law_340 rfl (lv_at hl 0 rfl) ?_
  refine lv_iconst (pc := 341) (v := zI 3) hx hb dL_law_341 rfl ?_
  refine zr_iadd (pc := 342) (d := i + 3) hx hb dL_law_342 rfl ?_
  refine zr_sld (pc := 343) hx hb hX hbl (Nat.not_le.mpr hbl) hS (by omega) (by omega) (by omega) dL_law_343 ?_
  refine zr_vwi (pc := 344) (As := [.int (zI (xv xs (i + 1))), .int (zI (xv xs (i + 2))), .int (zI (xv xs (i + 3)))]) (rest := []) S (ct_X7_alter l D cI cT H.size ad σ g hR hI σs n m0 hs tl tx rd rp hn hm hC hG.1 (xv xs (i + 1)) (xv xs (i + 2)) (xv xs (i + 3)) (xv_r xs (i + 1)) (xv_r xs (i + 2)) (xv_r xs (i + 3))) (cwV 3 hts gL_law_X7_alter rfl rfl rfl (by decide +kernel) ⟨Nat.le_of_ble_eq_true rfl, Nat.le_of_ble_eq_true rfl⟩) zs0 hK ⟨hP, hH1, hH2, hQ, hY⟩ (zr_recv hK hY.1 rfl) hS (fun q h => h.elim (fun ⟨k, k0, e⟩ => by rw [e]; exact hG.2.2.2.1 k k0) (fun z => Nat.le_trans hS.1 z)) rfl hl.1 rfl (Nat.le_of_ble_eq_true rfl) dL_law_344 ⟨Nat.le_of_ble_eq_true rfl, Nat.le_of_ble_eq_true rfl⟩ (fun r7 H1 locs1 hG7 hz1 hk1 hS1 => ?_)
  obtain ⟨σ', σs', g', n', m', hs', ⟨hR', hC', hn', hm'⟩, ho7, hP', hH1', hH2', hQ', hY'⟩ := hG7
  have hPm1 := mW_keep hPm hG hk1
  have hLX1 := LX_k7 hLX hG hk1
  refine lv_aload_n (pc := 347) hx hb dL_law_347 rfl (lv_at hl 1 rfl) ?_
  refine lv_aload_n (pc := 348) hx hb dL_law_348 rfl (lv_at hl 3 rfl) ?_
  refine lv_iload_n (pc := 349) hx hb dL_law_349 rfl (lv_at hl 0 rfl) ?_
  refine lv_iconst (pc := 350) (v := zI 1) hx hb dL_law_350 rfl ?_
  refine zr_iadd (pc := 351) (d := i + 1) hx hb dL_law_351 rfl ?_
  refine zr_sld (pc := 352) hx hb hX hbl (Nat.not_le.mpr hbl) hS1 (by omega) (by omega) (by omega) dL_law_352 ?_
  refine lv_aload_n (pc := 353) hx hb dL_law_353 rfl (lv_at hl 3 rfl) ?_
  refine lv_iload_n (pc := 354) hx hb dL_law_354 rfl (lv_at hl 0 rfl) ?_
  refine lv_iconst (pc := 355) (v := zI 2) hx hb dL_law_355 rfl ?_
  refine zr_iadd (pc := 356) (d := i + 2) hx hb dL_law_356 rfl ?_
  refine zr_sld (pc := 357) hx hb hX hbl (Nat.not_le.mpr hbl) hS1 (by omega) (by omega) (by omega) dL_law_357 ?_
  refine lv_aload_n (pc := 358) hx hb dL_law_358 rfl (lv_at hl 3 rfl) ?_
  refine lv_iload_n (pc := 359) hx hb dL_law_359 rfl (lv_at hl 0 rfl) ?_
  refine lv_iconst (pc := 360) (v := zI 3) hx hb dL_law_360 rfl ?_
  refine zr_iadd (pc := 361) (d := i + 3) hx hb dL_law_361 rfl ?_
  refine zr_sld (pc := 362) hx hb hX hbl (Nat.not_le.mpr hbl) hS1 (by omega) (by omega) (by omega) dL_law_362 ?_
  refine zr_vwi (pc := 363) (As := [.int (zI (xv xs (i + 1))), .int (zI (xv xs (i + 2))), .int (zI (xv xs (i + 3)))]) (rest := [.int r7]) S (ct_X8_alter l D cI cT H1.size am μ g n hs tl tx hM hI hG.2.1 (xv xs (i + 1)) (xv xs (i + 2)) (xv xs (i + 3)) (xv_r xs (i + 1)) (xv_r xs (i + 2)) (xv_r xs (i + 3))) (cwV 3 hts gL_law_X8_alter rfl rfl rfl (by decide +kernel) ⟨Nat.le_of_ble_eq_true rfl, Nat.le_of_ble_eq_true rfl⟩) zs0 hK hPm1 (zr_recv hK (hPm1 0 (by decide)) rfl) hS1 (fun q h => h.elim (fun ⟨k, k0, e⟩ => by rw [e]; exact hG.2.2.2.2 k k0) (fun z => Nat.le_trans hS1.1 z)) rfl hl.1 rfl (Nat.le_of_ble_eq_true rfl) dL_law_363 ⟨Nat.le_of_ble_eq_true rfl, Nat.le_of_ble_eq_true rfl⟩ (fun r8 H2 locs2 hG8 hz2 hk2 hS2 => ?_)
  obtain ⟨μ', g2, n2, hs2, hM', ho8, hPm'⟩ := hG8
  obtain ⟨er, eg, en, eh⟩ := oR_u ho8 ho7
  subst er eg en eh
  have hgO2 := gOK_act ho8 hgO (fun z => ok_alt hI z)
  refine lv_icmp_eq (pc := 366) (tgt := 997) hx hb dL_law_366 (by decide) (fun _ => ?_) (fun z => absurd rfl z)
  exact next H2 locs2 ls ⟨_, _, _, _, _, hgO2, ⟨σ', σs', m', rd, rp, hR', hC', hn', hm', cW_keep ⟨hP', hH1', hH2', hQ', hY'⟩ hG hk2⟩, ⟨μ', hM', hPm'⟩, LX_k8 hLX1 hG hk2⟩ hS2 hl
set_option maxHeartbeats 4000000 in
theorem lwc_5 {p : Program} {l : Launch} {e : Env} {s : State} {m : MethodId} {below : List Frame} {meth : Method} {c : Code} {H : Heap} {locs : List Loc} {ls : Array Slot} {Q : State → Prop} {D : va_G} {cI cT : ClassId} {b L : Nat} {xs : Nat → Int32} {ad am : Nat → Nat} {i : Int}
    (S : CallFix p m c cL_law 4 s #[Value.ref b] wsL_law RL) (hK : zK D cI cT s) (hX : va_X b L xs s s.heap) (hbl : b < s.heap.size) (hL : (L : Int) ≤ 3072) (hG : LG ad am s.heap.size) (hLI : LI D cI cT ad am s.heap.size s H) (hS : va_S (fun q => s.heap.size ≤ q) s.heap H locs)
    (hl : lv_has ls 4 [(3, .int (zI i)), (2, .ref (am 0)), (1, .ref (ad 120)), (0, .ref b)]) (i0 : 0 ≤ i) (i1 : i + 6 ≤ (L : Int))
    (next : ∀ (H1 : Heap) (locs1 : List Loc) (ls1 : Array Slot), LI D cI cT ad am s.heap.size s H1 → va_S (fun q => s.heap.size ≤ q) s.heap H1 locs1 → lv_has ls1 4 [(3, .int (zI i)), (2, .ref (am 0)), (1, .ref (ad 120)), (0, .ref b)] → W p l e room_1 s m #[Value.ref b] below meth c H1 locs1 132 7992 Q (F0 m 997 ls1 [])) :
    W p l e room_1 s m #[Value.ref b] below meth c H locs 132 7992 Q (F0 m 371 ls []) := by
  have hx := S.1
  have hb := S.2.1
  have hts := S.2.2.2.2
  obtain ⟨g, n, hs, tl, tx, hgO, ⟨σ, σs, m0, rd, rp, hR, hC, hn, hm, hP, hH1, hH2, hQ, hY⟩, ⟨μ, hM, hPm⟩, hLX⟩ := hLI
  have hI := hgO.1
  obtain ⟨t0, t1, htx⟩ := hgO.2.2
  refine lv_aload_n (pc := 371) hx hb dL_law_371 rfl (lv_at hl 2 rfl) ?_
  refine lv_aload_n (pc := 372) hx hb dL_law_372 rfl (lv_at hl 3 rfl) ?_
  refine lv_iload_n (pc := 373) hx hb dL_law_373 rfl (lv_at hl 0 rfl) ?_
  refine lv_iconst (pc := 374) (v := zI 1) hx hb dL_law_374 rfl ?_
  refine zr_iadd (pc := 375) (d := i + 1) hx hb dL_law_375 rfl ?_
  refine zr_sld (pc := 376) hx hb hX hbl (Nat.not_le.mpr hbl) hS (by omega) (by omega) (by omega) dL_law_376 ?_
  refine zr_vwi (pc := 377) (As := [.int (zI (xv xs (i + 1)))]) (rest := []) S (ct_X7_unpick l D cI cT H.size ad σ g hR hI σs n m0 hs tl tx rd rp hn hm hC hG.1 (xv xs (i + 1)) (xv_r xs (i + 1))) (cwV 1 hts gL_law_X7_unpick rfl rfl rfl (by decide +kernel) ⟨Nat.le_of_ble_eq_true rfl, Nat.le_of_ble_eq_true rfl⟩) zs0 hK ⟨hP, hH1, hH2, hQ, hY⟩ (zr_recv hK hY.1 rfl) hS (fun q h => h.elim (fun ⟨k, k0, e⟩ => by rw [e]; exact hG.2.2.2.1 k k0) (fun z => Nat.le_trans hS.1 z)) rfl hl.1 rfl (Nat.le_of_ble_eq_true rfl) dL_law_377 ⟨Nat.le_of_ble_eq_true rfl, Nat.le_of_ble_eq_true rfl⟩ (fun r7 H1 locs1 hG7 hz1 hk1 hS1 => ?_)
  obtain ⟨σ', σs', g', n', m', hs', ⟨hR', hC', hn', hm'⟩, ho7, hP', hH1', hH2', hQ', hY'⟩ := hG7
  have hPm1 := mW_keep hPm hG hk1
  have hLX1 := LX_k7 hLX hG hk1
  refine lv_aload_n (pc := 380) hx hb dL_law_380 rfl (lv_at hl 1 rfl) ?_
  refine lv_aload_n (pc := 381) hx hb dL_law_381 rfl (lv_at hl 3 rfl) ?_
  refine lv_iload_n (pc := 382) hx hb dL_law_382 rfl (lv_at hl 0 rfl) ?_
  refine lv_iconst (pc := 383) (v := zI 1) hx hb dL_law_383 rfl ?_
  refine zr_iadd (pc := 384) (d := i + 1) hx hb dL_law_384 rfl ?_
  refine zr_sld (pc := 385) hx hb hX hbl (Nat.not_le.mpr hbl) hS1 (by omega) (by omega) (by omega) dL_law_385 ?_
  refine zr_vwi (pc := 386) (As := [.int (zI (xv xs (i + 1)))]) (rest := [.int r7]) S (ct_X8_unpick l D cI cT H1.size am μ g n hs tl tx hM hI hG.2.1 (xv xs (i + 1)) (xv_r xs (i + 1))) (cwV 1 hts gL_law_X8_unpick rfl rfl rfl (by decide +kernel) ⟨Nat.le_of_ble_eq_true rfl, Nat.le_of_ble_eq_true rfl⟩) zs0 hK hPm1 (zr_recv hK (hPm1 0 (by decide)) rfl) hS1 (fun q h => h.elim (fun ⟨k, k0, e⟩ => by rw [e]; exact hG.2.2.2.2 k k0) (fun z => Nat.le_trans hS1.1 z)) rfl hl.1 rfl (Nat.le_of_ble_eq_true rfl) dL_law_386 ⟨Nat.le_of_ble_eq_true rfl, Nat.le_of_ble_eq_true rfl⟩ (fun r8 H2 locs2 hG8 hz2 hk2 hS2 => ?_)
  obtain ⟨μ', g2, n2, hs2, hM', ho8, hPm'⟩ := hG8
  obtain ⟨er, eg, en, eh⟩ := oR_u ho8 ho7
  subst er eg en eh
  have hgO2 := gOK_act ho8 hgO (fun z => ok_unp hI z)
  refine lv_icmp_eq (pc := 389) (tgt := 997) hx hb dL_law_389 (by decide) (fun _ => ?_) (fun z => absurd rfl z)
  exact next H2 locs2 ls ⟨_, _, _, _, _, hgO2, ⟨σ', σs', m', rd, rp, hR', hC', hn', hm', cW_keep ⟨hP', hH1', hH2', hQ', hY'⟩ hG hk2⟩, ⟨μ', hM', hPm'⟩, LX_k8 hLX1 hG hk2⟩ hS2 hl
set_option maxHeartbeats 4000000 in
theorem lwc_6 {p : Program} {l : Launch} {e : Env} {s : State} {m : MethodId} {below : List Frame} {meth : Method} {c : Code} {H : Heap} {locs : List Loc} {ls : Array Slot} {Q : State → Prop} {D : va_G} {cI cT : ClassId} {b L : Nat} {xs : Nat → Int32} {ad am : Nat → Nat} {i : Int}
    (S : CallFix p m c cL_law 4 s #[Value.ref b] wsL_law RL) (hK : zK D cI cT s) (hX : va_X b L xs s s.heap) (hbl : b < s.heap.size) (hL : (L : Int) ≤ 3072) (hG : LG ad am s.heap.size) (hLI : LI D cI cT ad am s.heap.size s H) (hS : va_S (fun q => s.heap.size ≤ q) s.heap H locs)
    (hl : lv_has ls 4 [(3, .int (zI i)), (2, .ref (am 0)), (1, .ref (ad 120)), (0, .ref b)]) (i0 : 0 ≤ i) (i1 : i + 6 ≤ (L : Int))
    (next : ∀ (H1 : Heap) (locs1 : List Loc) (ls1 : Array Slot), LI D cI cT ad am s.heap.size s H1 → va_S (fun q => s.heap.size ≤ q) s.heap H1 locs1 → lv_has ls1 4 [(3, .int (zI i)), (2, .ref (am 0)), (1, .ref (ad 120)), (0, .ref b)] → W p l e room_1 s m #[Value.ref b] below meth c H1 locs1 132 7992 Q (F0 m 997 ls1 [])) :
    W p l e room_1 s m #[Value.ref b] below meth c H locs 132 7992 Q (F0 m 394 ls []) := by
  have hx := S.1
  have hb := S.2.1
  have hts := S.2.2.2.2
  obtain ⟨g, n, hs, tl, tx, hgO, ⟨σ, σs, m0, rd, rp, hR, hC, hn, hm, hP, hH1, hH2, hQ, hY⟩, ⟨μ, hM, hPm⟩, hLX⟩ := hLI
  have hI := hgO.1
  obtain ⟨t0, t1, htx⟩ := hgO.2.2
  refine lv_aload_n (pc := 394) hx hb dL_law_394 rfl (lv_at hl 2 rfl) ?_
  refine lv_aload_n (pc := 395) hx hb dL_law_395 rfl (lv_at hl 3 rfl) ?_
  refine lv_iload_n (pc := 396) hx hb dL_law_396 rfl (lv_at hl 0 rfl) ?_
  refine lv_iconst (pc := 397) (v := zI 1) hx hb dL_law_397 rfl ?_
  refine zr_iadd (pc := 398) (d := i + 1) hx hb dL_law_398 rfl ?_
  refine zr_sld (pc := 399) hx hb hX hbl (Nat.not_le.mpr hbl) hS (by omega) (by omega) (by omega) dL_law_399 ?_
  refine zr_vwi (pc := 400) (As := [.int (zI (xv xs (i + 1)))]) (rest := []) S (ct_X7_append l D cI cT H.size ad σ g hR hI σs n m0 hs tl tx rd rp hn hm hC hG.1 t0 t1 (xv xs (i + 1)) (xv_r xs (i + 1))) (cwV 1 hts gL_law_X7_append rfl rfl rfl (by decide +kernel) ⟨Nat.le_of_ble_eq_true rfl, Nat.le_of_ble_eq_true rfl⟩) zs0 hK ⟨hP, hH1, hH2, hQ, hY⟩ (zr_recv hK hY.1 rfl) hS (fun q h => h.elim (fun ⟨k, k0, e⟩ => by rw [e]; exact hG.2.2.2.1 k k0) (fun z => Nat.le_trans hS.1 z)) rfl hl.1 rfl (Nat.le_of_ble_eq_true rfl) dL_law_400 ⟨Nat.le_of_ble_eq_true rfl, Nat.le_of_ble_eq_true rfl⟩ (fun r7 H1 locs1 hG7 hz1 hk1 hS1 => ?_)
  obtain ⟨tl', tx', ho7, hP', hH1', hH2', hQ', hY'⟩ := hG7
  have hPm1 := mW_keep hPm hG hk1
  have hLX1 := LX_k7 hLX hG hk1
  refine lv_aload_n (pc := 403) hx hb dL_law_403 rfl (lv_at hl 1 rfl) ?_
  refine lv_aload_n (pc := 404) hx hb dL_law_404 rfl (lv_at hl 3 rfl) ?_
  refine lv_iload_n (pc := 405) hx hb dL_law_405 rfl (lv_at hl 0 rfl) ?_
  refine lv_iconst (pc := 406) (v := zI 1) hx hb dL_law_406 rfl ?_
  refine zr_iadd (pc := 407) (d := i + 1) hx hb dL_law_407 rfl ?_
  refine zr_sld (pc := 408) hx hb hX hbl (Nat.not_le.mpr hbl) hS1 (by omega) (by omega) (by omega) dL_law_408 ?_
  refine zr_vwi (pc := 409) (As := [.int (zI (xv xs (i + 1)))]) (rest := [.int r7]) S (ct_X8_append l D cI cT H1.size am μ g n hs tl tx hM hI hG.2.1 t0 t1 (xv xs (i + 1)) (xv_r xs (i + 1))) (cwV 1 hts gL_law_X8_append rfl rfl rfl (by decide +kernel) ⟨Nat.le_of_ble_eq_true rfl, Nat.le_of_ble_eq_true rfl⟩) zs0 hK hPm1 (zr_recv hK (hPm1 0 (by decide)) rfl) hS1 (fun q h => h.elim (fun ⟨k, k0, e⟩ => by rw [e]; exact hG.2.2.2.2 k k0) (fun z => Nat.le_trans hS1.1 z)) rfl hl.1 rfl (Nat.le_of_ble_eq_true rfl) dL_law_409 ⟨Nat.le_of_ble_eq_true rfl, Nat.le_of_ble_eq_true rfl⟩ (fun r8 H2 locs2 hG8 hz2 hk2 hS2 => ?_)
  obtain ⟨μ', t2, x2, hM', ho8, hPm'⟩ := hG8
  obtain ⟨er, et, ex⟩ := oT_u ho8 ho7
  subst er et ex
  have hgO2 := gOK_app ho8 hgO
  refine lv_icmp_eq (pc := 412) (tgt := 997) hx hb dL_law_412 (by decide) (fun _ => ?_) (fun z => absurd rfl z)
  exact next H2 locs2 ls ⟨_, _, _, _, _, hgO2, ⟨σ, σs, m0, rd, rp, hR, hC, hn, hm, cW_keep ⟨hP', hH1', hH2', hQ', hY'⟩ hG hk2⟩, ⟨μ', hM', hPm'⟩, LX_k8 hLX1 hG hk2⟩ hS2 hl
set_option maxHeartbeats 4000000 in
theorem lwc_7 {p : Program} {l : Launch} {e : Env} {s : State} {m : MethodId} {below : List Frame} {meth : Method} {c : Code} {H : Heap} {locs : List Loc} {ls : Array Slot} {Q : State → Prop} {D : va_G} {cI cT : ClassId} {b L : Nat} {xs : Nat → Int32} {ad am : Nat → Nat} {i : Int}
    (S : CallFix p m c cL_law 4 s #[Value.ref b] wsL_law RL) (hK : zK D cI cT s) (hX : va_X b L xs s s.heap) (hbl : b < s.heap.size) (hL : (L : Int) ≤ 3072) (hG : LG ad am s.heap.size) (hLI : LI D cI cT ad am s.heap.size s H) (hS : va_S (fun q => s.heap.size ≤ q) s.heap H locs)
    (hl : lv_has ls 4 [(3, .int (zI i)), (2, .ref (am 0)), (1, .ref (ad 120)), (0, .ref b)]) (i0 : 0 ≤ i) (i1 : i + 6 ≤ (L : Int))
    (next : ∀ (H1 : Heap) (locs1 : List Loc) (ls1 : Array Slot), LI D cI cT ad am s.heap.size s H1 → va_S (fun q => s.heap.size ≤ q) s.heap H1 locs1 → lv_has ls1 4 [(3, .int (zI i)), (2, .ref (am 0)), (1, .ref (ad 120)), (0, .ref b)] → W p l e room_1 s m #[Value.ref b] below meth c H1 locs1 132 7992 Q (F0 m 997 ls1 [])) :
    W p l e room_1 s m #[Value.ref b] below meth c H locs 132 7992 Q (F0 m 417 ls []) := by
  have hx := S.1
  have hb := S.2.1
  have hts := S.2.2.2.2
  obtain ⟨g, n, hs, tl, tx, hgO, ⟨σ, σs, m0, rd, rp, hR, hC, hn, hm, hP, hH1, hH2, hQ, hY⟩, ⟨μ, hM, hPm⟩, hLX⟩ := hLI
  have hI := hgO.1
  obtain ⟨t0, t1, htx⟩ := hgO.2.2
  refine lv_aload_n (pc := 417) hx hb dL_law_417 rfl (lv_at hl 2 rfl) ?_
  refine zr_vwi (pc := 418) (As := []) (rest := []) S (ct_X7_clearText l D cI cT H.size ad σ g hR hI σs n m0 hs tl tx rd rp hn hm hC hG.1) (cwV 0 hts gL_law_X7_clearText rfl rfl rfl (by decide +kernel) ⟨Nat.le_of_ble_eq_true rfl, Nat.le_of_ble_eq_true rfl⟩) zs0 hK ⟨hP, hH1, hH2, hQ, hY⟩ (zr_recv hK hY.1 rfl) hS (fun q h => h.elim (fun ⟨k, k0, e⟩ => by rw [e]; exact hG.2.2.2.1 k k0) (fun z => Nat.le_trans hS.1 z)) rfl hl.1 rfl (Nat.le_of_ble_eq_true rfl) dL_law_418 ⟨Nat.le_of_ble_eq_true rfl, Nat.le_of_ble_eq_true rfl⟩ (fun r7 H1 locs1 hG7 hz1 hk1 hS1 => ?_)
  obtain ⟨tl', tx', ho7, hP', hH1', hH2', hQ', hY'⟩ := hG7
  have hPm1 := mW_keep hPm hG hk1
  have hLX1 := LX_k7 hLX hG hk1
  refine lv_aload_n (pc := 421) hx hb dL_law_421 rfl (lv_at hl 1 rfl) ?_
  refine zr_vwi (pc := 422) (As := []) (rest := [.int r7]) S (ct_X8_clearText l D cI cT H1.size am μ g n hs tl tx hM hI hG.2.1 t0 t1  ) (cwV 0 hts gL_law_X8_clearText rfl rfl rfl (by decide +kernel) ⟨Nat.le_of_ble_eq_true rfl, Nat.le_of_ble_eq_true rfl⟩) zs0 hK hPm1 (zr_recv hK (hPm1 0 (by decide)) rfl) hS1 (fun q h => h.elim (fun ⟨k, k0, e⟩ => by rw [e]; exact hG.2.2.2.2 k k0) (fun z => Nat.le_trans hS1.1 z)) rfl hl.1 rfl (Nat.le_of_ble_eq_true rfl) dL_law_422 ⟨Nat.le_of_ble_eq_true rfl, Nat.le_of_ble_eq_true rfl⟩ (fun r8 H2 locs2 hG8 hz2 hk2 hS2 => ?_)
  obtain ⟨μ', t2, x2, hM', ⟨ea, eb, ec⟩, hPm'⟩ := hG8
  obtain ⟨ed, ee, ef⟩ := ho7
  subst ea eb ec ed ee ef
  have hgO2 := gOK_clear hgO
  refine lv_icmp_eq (pc := 425) (tgt := 997) hx hb dL_law_425 (by decide) (fun _ => ?_) (fun z => absurd rfl z)
  exact next H2 locs2 ls ⟨_, _, _, _, _, hgO2, ⟨σ, σs, m0, rd, rp, hR, hC, hn, hm, cW_keep ⟨hP', hH1', hH2', hQ', hY'⟩ hG hk2⟩, ⟨μ', hM', hPm'⟩, LX_k8 hLX1 hG hk2⟩ hS2 hl
set_option maxHeartbeats 4000000 in
theorem lwc_8 {p : Program} {l : Launch} {e : Env} {s : State} {m : MethodId} {below : List Frame} {meth : Method} {c : Code} {H : Heap} {locs : List Loc} {ls : Array Slot} {Q : State → Prop} {D : va_G} {cI cT : ClassId} {b L : Nat} {xs : Nat → Int32} {ad am : Nat → Nat} {i : Int}
    (S : CallFix p m c cL_law 4 s #[Value.ref b] wsL_law RL) (hK : zK D cI cT s) (hX : va_X b L xs s s.heap) (hbl : b < s.heap.size) (hL : (L : Int) ≤ 3072) (hG : LG ad am s.heap.size) (hLI : LI D cI cT ad am s.heap.size s H) (hS : va_S (fun q => s.heap.size ≤ q) s.heap H locs)
    (hl : lv_has ls 4 [(3, .int (zI i)), (2, .ref (am 0)), (1, .ref (ad 120)), (0, .ref b)]) (i0 : 0 ≤ i) (i1 : i + 6 ≤ (L : Int))
    (next : ∀ (H1 : Heap) (locs1 : List Loc) (ls1 : Array Slot), LI D cI cT ad am s.heap.size s H1 → va_S (fun q => s.heap.size ≤ q) s.heap H1 locs1 → lv_has ls1 4 [(3, .int (zI i)), (2, .ref (am 0)), (1, .ref (ad 120)), (0, .ref b)] → W p l e room_1 s m #[Value.ref b] below meth c H1 locs1 132 7992 Q (F0 m 997 ls1 [])) :
    W p l e room_1 s m #[Value.ref b] below meth c H locs 132 7992 Q (F0 m 430 ls []) := by
  have hx := S.1
  have hb := S.2.1
  have hts := S.2.2.2.2
  obtain ⟨g, n, hs, tl, tx, hgO, ⟨σ, σs, m0, rd, rp, hR, hC, hn, hm, hP, hH1, hH2, hQ, hY⟩, ⟨μ, hM, hPm⟩, hLX⟩ := hLI
  have hI := hgO.1
  obtain ⟨t0, t1, htx⟩ := hgO.2.2
  refine lv_aload_n (pc := 430) hx hb dL_law_430 rfl (lv_at hl 2 rfl) ?_
  refine zr_vwi2 (pc := 431) (As := []) (rest := []) S (ct_X7_load l D cI cT H.size ad σ g hR hI σs n m0 hs tl tx rd rp hn hm hC hG.1 t0 t1 htx s.heap.size hG.2.2.2.1) (cwV 0 hts gL_law_X7_load rfl rfl rfl (by decide +kernel) ⟨Nat.le_of_ble_eq_true rfl, Nat.le_of_ble_eq_true rfl⟩) zs2_St hK ⟨⟨hP, hH1, hH2, hQ, hY⟩, hLX.2⟩ (zr_recv hK hY.1 rfl) hS (fun q h => h.elim (fun ⟨k, k0, e⟩ => by rw [e]; exact hG.2.2.2.1 k k0) (fun z => Nat.le_trans hS.1 z)) rfl hl.1 rfl (Nat.le_of_ble_eq_true rfl) dL_law_431 ⟨Nat.le_of_ble_eq_true rfl, Nat.le_of_ble_eq_true rfl⟩ (fun r7 H1 locs1 hG7 hz1 hk1 hS1 => ?_)
  obtain ⟨σ', σs', g', n', m', hs', tl', rd', rp', ⟨hR', hC', hn', hm'⟩, ho7, hP', hH1', hH2', hQ', hY'⟩ := hG7
  have hPm1 := mW_keep hPm hG hk1
  have hLX1 := LX_k7 hLX hG hk1
  refine lv_aload_n (pc := 434) hx hb dL_law_434 rfl (lv_at hl 1 rfl) ?_
  refine zr_vwi (pc := 435) (As := []) (rest := [.int r7]) S (ct_X8_load l D cI cT H1.size am μ g n hs tl tx hM hI hG.2.1 t0 t1 htx  ) (cwV 0 hts gL_law_X8_load rfl rfl rfl (by decide +kernel) ⟨Nat.le_of_ble_eq_true rfl, Nat.le_of_ble_eq_true rfl⟩) zs0 hK hPm1 (zr_recv hK (hPm1 0 (by decide)) rfl) hS1 (fun q h => h.elim (fun ⟨k, k0, e⟩ => by rw [e]; exact hG.2.2.2.2 k k0) (fun z => Nat.le_trans hS1.1 z)) rfl hl.1 rfl (Nat.le_of_ble_eq_true rfl) dL_law_435 ⟨Nat.le_of_ble_eq_true rfl, Nat.le_of_ble_eq_true rfl⟩ (fun r8 H2 locs2 hG8 hz2 hk2 hS2 => ?_)
  obtain ⟨μ', g2, n2, hs2, t2, hM', ho8, hPm'⟩ := hG8
  obtain ⟨er, eg, en, eh, et⟩ := oD_u ho8 ho7
  subst er eg en eh et
  have hgO2 := gOK_load ho8 hgO
  refine lv_icmp_eq (pc := 438) (tgt := 997) hx hb dL_law_438 (by decide) (fun _ => ?_) (fun z => absurd rfl z)
  exact next H2 locs2 ls ⟨_, _, _, _, _, hgO2, ⟨σ', σs', m', rd', rp', hR', hC', hn', hm', cW_keep ⟨hP', hH1', hH2', hQ', hY'⟩ hG hk2⟩, ⟨μ', hM', hPm'⟩, LX_k8 hLX1 hG hk2⟩ hS2 hl
