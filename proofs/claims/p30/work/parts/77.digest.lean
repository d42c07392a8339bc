set_option maxHeartbeats 4000000 in
set_option maxRecDepth 100000 in
theorem ct_L_digest (l : Launch) (D : va_G) (cI cT : ClassId) (ad : Nat → Nat) (σ : Nat → Int → Int) (g : Int → Int) (hR : Rel σ g) (hI : Inv g) (n m : Int) (tl : Int) (tx rd rp : Int → Int) : zMl l yL_digest wsL_digest ({ frames := 6, cells := 0, slots := 0, locals := 130 }) D cI cT [.ref (ad 120)] (fun _ H => zW D ad 20 (sC cI ad σ) H ∧ hO1 D ad n m H ∧ cY D cI ad tl tx rd rp H) (fun r => r = zL (DG g)) := by
  refine Met.ofW (cc := cL_digest) (maxL := 5) (ret := (some .long)) (by decide) rfl ?_
  intro p_ e_ s m_ args below meth c_ s₁ B hml hv
  obtain ⟨rfl, hK, hF⟩ := hv
  have hx := B.exec
  have hb := B.bytes
  have hr := B.returns
  have hts := atoms_spec (ws := wsL_digest) B.pre
  have hown : s.vm.findClass RL = some m_.cls := findClass_of_methodNamed B.named
  have hlocks := B.notSynchronized
  have S : CallFix p_ m_ c_ cL_digest 5 s _ wsL_digest RL := ⟨hx, hb, hml, hown, hts⟩
  obtain ⟨hP, hH1, hY⟩ := hF
  have hnC := iv_nC hI
  have hnA := iv_nA hI
  have hnH := iv_nH hI
  have hl := lv_entry ([.ref (ad 120)]) (n := 5) (Nat.le_of_ble_eq_true rfl)
  rw [lg_entry_eq]
  generalize (lg_sl ([.ref (ad 120)]) ++ List.replicate (5 - (lg_sl ([.ref (ad 120)])).length) Slot.unset).toArray = ls at hl ⊢
  have hl : lv_has ls 5 [(0, .ref (ad 120))] := hl
  refine zr_ldc2 (pc := 0) (w := 7) hx hb hown (hts _ (List.mem_of_getElem? (i := 1) rfl)) dL_digest_0 (by decide +kernel) ?_
  refine lv_lstore_n (pc := 3) (lv' := [(1, .long (zL (7))), (0, .ref (ad 120))]) hx hb dL_digest_3 rfl hl (by decide) rfl (fun ls hl => ?_)
  refine lv_iconst (pc := 4) (v := zI 0) hx hb dL_digest_4 rfl ?_
  refine lv_istore_n (pc := 5) (lv' := [(3, .int (zI (0))), (1, .long (zL (7))), (0, .ref (ad 120))]) hx hb dL_digest_5 rfl hl (by decide) rfl (fun ls hl => ?_)
  rw [← itr_0 (dgf (qCou g 0 0)) 7] at hl
  refine zr_loop1 (fun (i : Nat) => ((i : Int) ≤ 10)) (fun (i : Nat) => (10 : Int).toNat - i) (fun (i : Nat) => [(0, .ref (ad 120)), (1, .long (zL (itr (dgf (qCou g 0 0)) i 7))), (3, .int (zI ((i : Int))))]) ?_ (0) (by omega) (lv_sub hl [2, 1, 0] rfl)
  intro i hinv ih_6 ls hl
  obtain h_i := hinv
  refine lv_iload_n (pc := 6) hx hb dL_digest_6 rfl (lv_at hl 2 rfl) ?_
  refine lv_bipush (pc := 7) (v := zI 10) hx hb dL_digest_7 zc_bipush_10 ?_
  refine zr_icmp_ge (pc := 9) (tgt := 31) hx hb dL_digest_9 (by decide) (by omega) (by decide) (fun c_9 => ?_) (fun c_9 => ?_)
  · have e_i : i = 10 := by omega
    rw [e_i] at hl
    rw [← dg1_e] at hl
    replace hl : lv_has ls 5 [(0, .ref (ad 120)), (1, .long (zL (dg1 g))), (3, .int (zI (((10 : Nat) : Int))))] := hl
    refine lv_bipush (pc := 31) (v := zI 12) hx hb dL_digest_31 zc_bipush_12 ?_
    refine lv_istore_n (pc := 33) (lv' := [(3, .int (zI (12))), (0, .ref (ad 120)), (1, .long (zL (dg1 g)))]) hx hb dL_digest_33 rfl hl (by decide) rfl (fun ls hl => ?_)
    rw [← itr_0 (dgf (fun x => qCou g 0 0 (12 + x))) (dg1 g)] at hl
    refine zr_loop1 (fun (i : Nat) => ((i : Int) ≤ 4)) (fun (i : Nat) => (4 : Int).toNat - i) (fun (i : Nat) => [(0, .ref (ad 120)), (1, .long (zL (itr (dgf (fun x => qCou g 0 0 (12 + x))) i (dg1 g)))), (3, .int (zI (12 + (i : Int))))]) ?_ (0) (by omega) (lv_sub hl [1, 2, 0] rfl)
    intro i hinv ih_34 ls hl
    obtain h_i := hinv
    refine lv_iload_n (pc := 34) hx hb dL_digest_34 rfl (lv_at hl 2 rfl) ?_
    refine lv_bipush (pc := 35) (v := zI 16) hx hb dL_digest_35 zc_bipush_16 ?_
    refine zr_icmp_ge (pc := 37) (tgt := 59) hx hb dL_digest_37 (by decide) (by omega) (by decide) (fun c_37 => ?_) (fun c_37 => ?_)
    · have e_i : i = 4 := by omega
      rw [e_i] at hl
      rw [← dg2_e] at hl
      replace hl : lv_has ls 5 [(0, .ref (ad 120)), (1, .long (zL (dg2 g))), (3, .int (zI (12 + ((4 : Nat) : Int))))] := hl
      refine lv_iconst (pc := 59) (v := zI 0) hx hb dL_digest_59 rfl ?_
      refine lv_istore_n (pc := 60) (lv' := [(3, .int (zI (0))), (0, .ref (ad 120)), (1, .long (zL (dg2 g)))]) hx hb dL_digest_60 rfl hl (by decide) rfl (fun ls hl => ?_)
      rw [← itr_0 (dgC g) (dg2 g)] at hl
      refine zr_loop1 (fun (k : Nat) => ((k : Int) ≤ g 0)) (fun (k : Nat) => (g 0 : Int).toNat - k) (fun (k : Nat) => [(0, .ref (ad 120)), (1, .long (zL (itr (dgC g) k (dg2 g)))), (3, .int (zI ((k : Int))))]) ?_ (0) (by omega) (lv_sub hl [1, 2, 0] rfl)
      intro k hinv ih_61 ls hl
      obtain h_k := hinv
      refine lv_iload_n (pc := 61) hx hb dL_digest_61 rfl (lv_at hl 2 rfl) ?_
      refine lv_aload_n (pc := 62) hx hb dL_digest_62 rfl (lv_at hl 0 rfl) ?_
      refine lv_iconst (pc := 63) (v := zI 0) hx hb dL_digest_63 rfl ?_
      refine zr_vi (pc := 64) (As := [.int (zI (0))]) (rest := [.int (zI ((k : Int)))]) S (ct_X7_count l D cI cT ad σ g hR hI n m tl tx rd rp 0 (by decide)) (cwV 1 hts gL_digest_X7_count rfl rfl rfl (by decide +kernel) ⟨Nat.le_of_ble_eq_true rfl, Nat.le_of_ble_eq_true rfl⟩) zs0 hK ⟨hP, hH1, hY⟩ (zr_recv hK hY.1 rfl) rfl hl.1 rfl (Nat.le_of_ble_eq_true rfl) dL_digest_64 ⟨Nat.le_of_ble_eq_true rfl, Nat.le_of_ble_eq_true rfl⟩ (fun r_64 hr_64 => ?_)
      subst hr_64
      refine zr_top (b := g 0) (rfl) ?_
      refine zr_icmp_ge (pc := 67) (tgt := 155) hx hb dL_digest_67 (by decide) (by omega) (by omega) (fun c_67 => ?_) (fun c_67 => ?_)
      · have e_k : k = (g 0).toNat := by omega
        rw [e_k] at hl
        rw [← dg3_e] at hl
        replace hl : lv_has ls 5 [(0, .ref (ad 120)), (1, .long (zL (dg3 g))), (3, .int (zI ((((g 0).toNat : Nat) : Int))))] := hl
        refine lv_iconst (pc := 155) (v := zI 0) hx hb dL_digest_155 rfl ?_
        refine lv_istore_n (pc := 156) (lv' := [(3, .int (zI (0))), (0, .ref (ad 120)), (1, .long (zL (dg3 g)))]) hx hb dL_digest_156 rfl hl (by decide) rfl (fun ls hl => ?_)
        rw [← itr_0 (dgA g) (dg3 g)] at hl
        refine zr_loop1 (fun (a : Nat) => ((a : Int) ≤ g 1)) (fun (a : Nat) => (g 1 : Int).toNat - a) (fun (a : Nat) => [(0, .ref (ad 120)), (1, .long (zL (itr (dgA g) a (dg3 g)))), (3, .int (zI ((a : Int))))]) ?_ (0) (by omega) (lv_sub hl [1, 2, 0] rfl)
        intro a hinv ih_157 ls hl
        obtain h_a := hinv
        refine lv_iload_n (pc := 157) hx hb dL_digest_157 rfl (lv_at hl 2 rfl) ?_
        refine lv_aload_n (pc := 158) hx hb dL_digest_158 rfl (lv_at hl 0 rfl) ?_
        refine lv_iconst (pc := 159) (v := zI 1) hx hb dL_digest_159 rfl ?_
        refine zr_vi (pc := 160) (As := [.int (zI (1))]) (rest := [.int (zI ((a : Int)))]) S (ct_X7_count l D cI cT ad σ g hR hI n m tl tx rd rp 1 (by decide)) (cwV 1 hts gL_digest_X7_count rfl rfl rfl (by decide +kernel) ⟨Nat.le_of_ble_eq_true rfl, Nat.le_of_ble_eq_true rfl⟩) zs0 hK ⟨hP, hH1, hY⟩ (zr_recv hK hY.1 rfl) rfl hl.1 rfl (Nat.le_of_ble_eq_true rfl) dL_digest_160 ⟨Nat.le_of_ble_eq_true rfl, Nat.le_of_ble_eq_true rfl⟩ (fun r_160 hr_160 => ?_)
        subst hr_160
        refine zr_top (b := g 1) (rfl) ?_
        refine zr_icmp_ge (pc := 163) (tgt := 203) hx hb dL_digest_163 (by decide) (by omega) (by omega) (fun c_163 => ?_) (fun c_163 => ?_)
        · have e_a : a = (g 1).toNat := by omega
          rw [e_a] at hl
          rw [← dg4_e] at hl
          replace hl : lv_has ls 5 [(0, .ref (ad 120)), (1, .long (zL (dg4 g))), (3, .int (zI ((((g 1).toNat : Nat) : Int))))] := hl
          refine lv_iconst (pc := 203) (v := zI 0) hx hb dL_digest_203 rfl ?_
          refine lv_istore_n (pc := 204) (lv' := [(3, .int (zI (0))), (0, .ref (ad 120)), (1, .long (zL (dg4 g)))]) hx hb dL_digest_204 rfl hl (by decide) rfl (fun ls hl => ?_)
          rw [← itr_0 (dgH g) (dg4 g)] at hl
          refine zr_loop1 (fun (k : Nat) => ((k : Int) ≤ g 2)) (fun (k : Nat) => (g 2 : Int).toNat - k) (fun (k : Nat) => [(0, .ref (ad 120)), (1, .long (zL (itr (dgH g) k (dg4 g)))), (3, .int (zI ((k : Int))))]) ?_ (0) (by omega) (lv_sub hl [1, 2, 0] rfl)
          intro k hinv ih_205 ls hl
          obtain h_k := hinv
          refine lv_iload_n (pc := 205) hx hb dL_digest_205 rfl (lv_at hl 2 rfl) ?_
          refine lv_aload_n (pc := 206) hx hb dL_digest_206 rfl (lv_at hl 0 rfl) ?_
          refine lv_iconst (pc := 207) (v := zI 2) hx hb dL_digest_207 rfl ?_
          refine zr_vi (pc := 208) (As := [.int (zI (2))]) (rest := [.int (zI ((k : Int)))]) S (ct_X7_count l D cI cT ad σ g hR hI n m tl tx rd rp 2 (by decide)) (cwV 1 hts gL_digest_X7_count rfl rfl rfl (by decide +kernel) ⟨Nat.le_of_ble_eq_true rfl, Nat.le_of_ble_eq_true rfl⟩) zs0 hK ⟨hP, hH1, hY⟩ (zr_recv hK hY.1 rfl) rfl hl.1 rfl (Nat.le_of_ble_eq_true rfl) dL_digest_208 ⟨Nat.le_of_ble_eq_true rfl, Nat.le_of_ble_eq_true rfl⟩ (fun r_208 hr_208 => ?_)
          subst hr_208
          refine zr_top (b := g 2) (rfl) ?_
          refine zr_icmp_ge (pc := 211) (tgt := 250) hx hb dL_digest_211 (by decide) (by omega) (by omega) (fun c_211 => ?_) (fun c_211 => ?_)
          · have e_k : k = (g 2).toNat := by omega
            rw [e_k] at hl
            rw [← DG_e] at hl
            replace hl : lv_has ls 5 [(0, .ref (ad 120)), (1, .long (zL (DG g))), (3, .int (zI ((((g 2).toNat : Nat) : Int))))] := hl
            refine lv_lload_n (pc := 250) hx hb dL_digest_250 rfl (lv_at hl 1 rfl) ?_
            exact W.lret (v := zL (DG g)) hx hb hr (fun tz ht hW => ⟨_, rfl, rfl, ht⟩) (fun _ h => by cases h) dL_digest_251
          · refine lv_iconst (pc := 214) (v := zI 0) hx hb dL_digest_214 rfl ?_
            refine lv_istore (pc := 215) (lv' := [(4, .int (zI (0))), (0, .ref (ad 120)), (1, .long (zL (itr (dgH g) k (dg4 g)))), (3, .int (zI ((k : Int))))]) hx hb dL_digest_215 hl (by decide) rfl (fun ls hl => ?_)
            rw [← itr_0 (dgf (qHir g (k : Int))) (itr (dgH g) k (dg4 g))] at hl
            refine zr_loop1 (fun (i : Nat) => ((i : Int) ≤ 4)) (fun (i : Nat) => (4 : Int).toNat - i) (fun (i : Nat) => [(0, .ref (ad 120)), (3, .int (zI ((k : Int)))), (1, .long (zL (itr (dgf (qHir g (k : Int))) i (itr (dgH g) k (dg4 g))))), (4, .int (zI ((i : Int))))]) ?_ (0) (by omega) (lv_sub hl [1, 3, 2, 0] rfl)
            intro i hinv ih_217 ls hl
            obtain h_i := hinv
            refine lv_iload (pc := 217) hx hb dL_digest_217 (lv_at hl 3 rfl) ?_
            refine lv_iconst (pc := 219) (v := zI 4) hx hb dL_digest_219 rfl ?_
            refine zr_icmp_ge (pc := 220) (tgt := 244) hx hb dL_digest_220 (by decide) (by omega) (by decide) (fun c_220 => ?_) (fun c_220 => ?_)
            · have e_i : i = 4 := by omega
              rw [e_i] at hl
              rw [← dgH_s] at hl
              replace hl : lv_has ls 5 [(0, .ref (ad 120)), (3, .int (zI ((k : Int)))), (1, .long (zL (itr (dgH g) (k + 1) (dg4 g)))), (4, .int (zI (((4 : Nat) : Int))))] := hl
              refine zr_iinc (pc := 244) (d := ((k : Int)) + 1) (lv' := [(3, .int (zI (((k : Int)) + 1))), (0, .ref (ad 120)), (1, .long (zL (itr (dgH g) (k + 1) (dg4 g)))), (4, .int (zI (((4 : Nat) : Int))))]) hx hb dL_digest_244 hl (k := 1) rfl rfl (by decide) rfl (fun ls hl => ?_)
              refine lv_goto (pc := 247) (tgt := 205) hx hb dL_digest_247 (by decide) ?_
              exact ih_205 (k + 1) (by omega) (by omega) ls (lv_sub hl [1, 2, 0] rfl)
            · refine zr_ldc2 (pc := 223) (w := 31) hx hb hown (hts _ (List.mem_of_getElem? (i := 2) rfl)) dL_digest_223 (by decide +kernel) ?_
              refine lv_lload_n (pc := 226) hx hb dL_digest_226 rfl (lv_at hl 2 rfl) ?_
              refine zr_lmul (pc := 227) (d := 31 * (itr (dgf (qHir g (k : Int))) i (itr (dgH g) k (dg4 g)))) hx hb dL_digest_227 rfl ?_
              refine lv_aload_n (pc := 228) hx hb dL_digest_228 rfl (lv_at hl 0 rfl) ?_
              refine lv_iload_n (pc := 229) hx hb dL_digest_229 rfl (lv_at hl 1 rfl) ?_
              refine lv_iload (pc := 230) hx hb dL_digest_230 (lv_at hl 3 rfl) ?_
              refine zr_vi (pc := 232) (As := [.int (zI ((k : Int))), .int (zI ((i : Int)))]) (rest := [.long (zL (31 * (itr (dgf (qHir g (k : Int))) i (itr (dgH g) k (dg4 g)))))]) S (ct_X7_hired l D cI cT ad σ g hR hI tl tx rd rp ((k : Int)) ((i : Int)) (by omega) (by omega)) (cwV 2 hts gL_digest_X7_hired rfl rfl rfl (by decide +kernel) ⟨Nat.le_of_ble_eq_true rfl, Nat.le_of_ble_eq_true rfl⟩) zs0 hK ⟨hP, hY⟩ (zr_recv hK hY.1 rfl) rfl hl.1 rfl (Nat.le_of_ble_eq_true rfl) dL_digest_232 ⟨Nat.le_of_ble_eq_true rfl, Nat.le_of_ble_eq_true rfl⟩ (fun r_232 hr_232 => ?_)
              subst hr_232
              refine zr_i2lw (pc := 235) hx hb dL_digest_235 ?_
              refine zr_ladd (pc := 236) (d := itr (dgf (qHir g (k : Int))) (i + 1) (itr (dgH g) k (dg4 g))) hx hb dL_digest_236 (itr_d _ _ _) ?_
              refine lv_lstore_n (pc := 237) (lv' := [(1, .long (zL (itr (dgf (qHir g (k : Int))) (i + 1) (itr (dgH g) k (dg4 g))))), (0, .ref (ad 120)), (3, .int (zI ((k : Int)))), (4, .int (zI ((i : Int))))]) hx hb dL_digest_237 rfl hl (by decide) rfl (fun ls hl => ?_)
              refine zr_iinc (pc := 238) (d := ((i : Int)) + 1) (lv' := [(4, .int (zI (((i : Int)) + 1))), (1, .long (zL (itr (dgf (qHir g (k : Int))) (i + 1) (itr (dgH g) k (dg4 g))))), (0, .ref (ad 120)), (3, .int (zI ((k : Int))))]) hx hb dL_digest_238 hl (k := 3) rfl rfl (by decide) rfl (fun ls hl => ?_)
              refine lv_goto (pc := 241) (tgt := 217) hx hb dL_digest_241 (by decide) ?_
              exact ih_217 (i + 1) (by omega) (by omega) ls (lv_sub hl [2, 3, 1, 0] rfl)
        · refine lv_iconst (pc := 166) (v := zI 0) hx hb dL_digest_166 rfl ?_
          refine lv_istore (pc := 167) (lv' := [(4, .int (zI (0))), (0, .ref (ad 120)), (1, .long (zL (itr (dgA g) a (dg3 g)))), (3, .int (zI ((a : Int))))]) hx hb dL_digest_167 hl (by decide) rfl (fun ls hl => ?_)
          rw [← itr_0 (dgf (qAct g (a : Int))) (itr (dgA g) a (dg3 g))] at hl
          refine zr_loop1 (fun (i : Nat) => ((i : Int) ≤ 15)) (fun (i : Nat) => (15 : Int).toNat - i) (fun (i : Nat) => [(0, .ref (ad 120)), (3, .int (zI ((a : Int)))), (1, .long (zL (itr (dgf (qAct g (a : Int))) i (itr (dgA g) a (dg3 g))))), (4, .int (zI ((i : Int))))]) ?_ (0) (by omega) (lv_sub hl [1, 3, 2, 0] rfl)
          intro i hinv ih_169 ls hl
          obtain h_i := hinv
          refine lv_iload (pc := 169) hx hb dL_digest_169 (lv_at hl 3 rfl) ?_
          refine lv_bipush (pc := 171) (v := zI 15) hx hb dL_digest_171 zc_bipush_15 ?_
          refine zr_icmp_ge (pc := 173) (tgt := 197) hx hb dL_digest_173 (by decide) (by omega) (by decide) (fun c_173 => ?_) (fun c_173 => ?_)
          · have e_i : i = 15 := by omega
            rw [e_i] at hl
            rw [← dgA_s] at hl
            replace hl : lv_has ls 5 [(0, .ref (ad 120)), (3, .int (zI ((a : Int)))), (1, .long (zL (itr (dgA g) (a + 1) (dg3 g)))), (4, .int (zI (((15 : Nat) : Int))))] := hl
            refine zr_iinc (pc := 197) (d := ((a : Int)) + 1) (lv' := [(3, .int (zI (((a : Int)) + 1))), (0, .ref (ad 120)), (1, .long (zL (itr (dgA g) (a + 1) (dg3 g)))), (4, .int (zI (((15 : Nat) : Int))))]) hx hb dL_digest_197 hl (k := 1) rfl rfl (by decide) rfl (fun ls hl => ?_)
            refine lv_goto (pc := 200) (tgt := 157) hx hb dL_digest_200 (by decide) ?_
            exact ih_157 (a + 1) (by omega) (by omega) ls (lv_sub hl [1, 2, 0] rfl)
          · refine zr_ldc2 (pc := 176) (w := 31) hx hb hown (hts _ (List.mem_of_getElem? (i := 2) rfl)) dL_digest_176 (by decide +kernel) ?_
            refine lv_lload_n (pc := 179) hx hb dL_digest_179 rfl (lv_at hl 2 rfl) ?_
            refine zr_lmul (pc := 180) (d := 31 * (itr (dgf (qAct g (a : Int))) i (itr (dgA g) a (dg3 g)))) hx hb dL_digest_180 rfl ?_
            refine lv_aload_n (pc := 181) hx hb dL_digest_181 rfl (lv_at hl 0 rfl) ?_
            refine lv_iload_n (pc := 182) hx hb dL_digest_182 rfl (lv_at hl 1 rfl) ?_
            refine lv_iload (pc := 183) hx hb dL_digest_183 (lv_at hl 3 rfl) ?_
            refine zr_vi (pc := 185) (As := [.int (zI ((a : Int))), .int (zI ((i : Int)))]) (rest := [.long (zL (31 * (itr (dgf (qAct g (a : Int))) i (itr (dgA g) a (dg3 g)))))]) S (ct_X7_actor l D cI cT ad σ g hR hI tl tx rd rp ((a : Int)) ((i : Int)) (by omega) (by omega)) (cwV 2 hts gL_digest_X7_actor rfl rfl rfl (by decide +kernel) ⟨Nat.le_of_ble_eq_true rfl, Nat.le_of_ble_eq_true rfl⟩) zs0 hK ⟨hP, hY⟩ (zr_recv hK hY.1 rfl) rfl hl.1 rfl (Nat.le_of_ble_eq_true rfl) dL_digest_185 ⟨Nat.le_of_ble_eq_true rfl, Nat.le_of_ble_eq_true rfl⟩ (fun r_185 hr_185 => ?_)
            subst hr_185
            refine zr_i2lw (pc := 188) hx hb dL_digest_188 ?_
            refine zr_ladd (pc := 189) (d := itr (dgf (qAct g (a : Int))) (i + 1) (itr (dgA g) a (dg3 g))) hx hb dL_digest_189 (itr_d _ _ _) ?_
            refine lv_lstore_n (pc := 190) (lv' := [(1, .long (zL (itr (dgf (qAct g (a : Int))) (i + 1) (itr (dgA g) a (dg3 g))))), (0, .ref (ad 120)), (3, .int (zI ((a : Int)))), (4, .int (zI ((i : Int))))]) hx hb dL_digest_190 rfl hl (by decide) rfl (fun ls hl => ?_)
            refine zr_iinc (pc := 191) (d := ((i : Int)) + 1) (lv' := [(4, .int (zI (((i : Int)) + 1))), (1, .long (zL (itr (dgf (qAct g (a : Int))) (i + 1) (itr (dgA g) a (dg3 g))))), (0, .ref (ad 120)), (3, .int (zI ((a : Int))))]) hx hb dL_digest_191 hl (k := 3) rfl rfl (by decide) rfl (fun ls hl => ?_)
            refine lv_goto (pc := 194) (tgt := 169) hx hb dL_digest_194 (by decide) ?_
            exact ih_169 (i + 1) (by omega) (by omega) ls (lv_sub hl [2, 3, 1, 0] rfl)
      · refine lv_iconst (pc := 70) (v := zI 0) hx hb dL_digest_70 rfl ?_
        refine lv_istore (pc := 71) (lv' := [(4, .int (zI (0))), (0, .ref (ad 120)), (1, .long (zL (itr (dgC g) k (dg2 g)))), (3, .int (zI ((k : Int))))]) hx hb dL_digest_71 hl (by decide) rfl (fun ls hl => ?_)
        rw [← itr_0 (dgf (qCos g (k : Int))) (itr (dgC g) k (dg2 g))] at hl
        refine zr_loop1 (fun (i : Nat) => ((i : Int) ≤ 13)) (fun (i : Nat) => (13 : Int).toNat - i) (fun (i : Nat) => [(0, .ref (ad 120)), (3, .int (zI ((k : Int)))), (1, .long (zL (itr (dgf (qCos g (k : Int))) i (itr (dgC g) k (dg2 g))))), (4, .int (zI ((i : Int))))]) ?_ (0) (by omega) (lv_sub hl [1, 3, 2, 0] rfl)
        intro i hinv ih_73 ls hl
        obtain h_i := hinv
        refine lv_iload (pc := 73) hx hb dL_digest_73 (lv_at hl 3 rfl) ?_
        refine lv_bipush (pc := 75) (v := zI 13) hx hb dL_digest_75 zc_bipush_13 ?_
        refine zr_icmp_ge (pc := 77) (tgt := 101) hx hb dL_digest_77 (by decide) (by omega) (by decide) (fun c_77 => ?_) (fun c_77 => ?_)
        · have e_i : i = 13 := by omega
          rw [e_i] at hl
          replace hl : lv_has ls 5 [(0, .ref (ad 120)), (3, .int (zI ((k : Int)))), (1, .long (zL (itr (dgf (qCos g (k : Int))) 13 (itr (dgC g) k (dg2 g))))), (4, .int (zI (((13 : Nat) : Int))))] := hl
          refine lv_iconst (pc := 101) (v := zI 0) hx hb dL_digest_101 rfl ?_
          refine lv_istore (pc := 102) (lv' := [(4, .int (zI (0))), (0, .ref (ad 120)), (3, .int (zI ((k : Int)))), (1, .long (zL (itr (dgf (qCos g (k : Int))) 13 (itr (dgC g) k (dg2 g)))))]) hx hb dL_digest_102 hl (by decide) rfl (fun ls hl => ?_)
          rw [← itr_0 (dgX g (k : Int)) (itr (dgf (qCos g (k : Int))) 13 (itr (dgC g) k (dg2 g)))] at hl
          refine zr_loop1 (fun (i : Nat) => ((i : Int) ≤ 6)) (fun (i : Nat) => (6 : Int).toNat - i) (fun (i : Nat) => [(0, .ref (ad 120)), (3, .int (zI ((k : Int)))), (1, .long (zL (itr (dgX g (k : Int)) i (itr (dgf (qCos g (k : Int))) 13 (itr (dgC g) k (dg2 g)))))), (4, .int (zI ((i : Int))))]) ?_ (0) (by omega) (lv_sub hl [1, 2, 3, 0] rfl)
          intro i hinv ih_104 ls hl
          obtain h_i := hinv
          refine lv_iload (pc := 104) hx hb dL_digest_104 (lv_at hl 3 rfl) ?_
          refine lv_bipush (pc := 106) (v := zI 6) hx hb dL_digest_106 zc_bipush_6 ?_
          refine zr_icmp_ge (pc := 108) (tgt := 149) hx hb dL_digest_108 (by decide) (by omega) (by decide) (fun c_108 => ?_) (fun c_108 => ?_)
          · have e_i : i = 6 := by omega
            rw [e_i] at hl
            rw [← dgC_s] at hl
            replace hl : lv_has ls 5 [(0, .ref (ad 120)), (3, .int (zI ((k : Int)))), (1, .long (zL (itr (dgC g) (k + 1) (dg2 g)))), (4, .int (zI (((6 : Nat) : Int))))] := hl
            refine zr_iinc (pc := 149) (d := ((k : Int)) + 1) (lv' := [(3, .int (zI (((k : Int)) + 1))), (0, .ref (ad 120)), (1, .long (zL (itr (dgC g) (k + 1) (dg2 g)))), (4, .int (zI (((6 : Nat) : Int))))]) hx hb dL_digest_149 hl (k := 1) rfl rfl (by decide) rfl (fun ls hl => ?_)
            refine lv_goto (pc := 152) (tgt := 61) hx hb dL_digest_152 (by decide) ?_
            exact ih_61 (k + 1) (by omega) (by omega) ls (lv_sub hl [1, 2, 0] rfl)
          · refine zr_ldc2 (pc := 111) (w := 31) hx hb hown (hts _ (List.mem_of_getElem? (i := 2) rfl)) dL_digest_111 (by decide +kernel) ?_
            refine lv_lload_n (pc := 114) hx hb dL_digest_114 rfl (lv_at hl 2 rfl) ?_
            refine zr_lmul (pc := 115) (d := 31 * (itr (dgX g (k : Int)) i (itr (dgf (qCos g (k : Int))) 13 (itr (dgC g) k (dg2 g))))) hx hb dL_digest_115 rfl ?_
            refine lv_aload_n (pc := 116) hx hb dL_digest_116 rfl (lv_at hl 0 rfl) ?_
            refine lv_iload_n (pc := 117) hx hb dL_digest_117 rfl (lv_at hl 1 rfl) ?_
            refine lv_iload (pc := 118) hx hb dL_digest_118 (lv_at hl 3 rfl) ?_
            refine lv_iconst (pc := 120) (v := zI 0) hx hb dL_digest_120 rfl ?_
            refine zr_vi (pc := 121) (As := [.int (zI ((k : Int))), .int (zI ((i : Int))), .int (zI (0))]) (rest := [.long (zL (31 * (itr (dgX g (k : Int)) i (itr (dgf (qCos g (k : Int))) 13 (itr (dgC g) k (dg2 g))))))]) S (ct_X7_alteration l D cI cT ad σ g hR hI tl tx rd rp ((k : Int)) ((i : Int)) 0 (by omega) (by omega) (by decide)) (cwV 3 hts gL_digest_X7_alteration rfl rfl rfl (by decide +kernel) ⟨Nat.le_of_ble_eq_true rfl, Nat.le_of_ble_eq_true rfl⟩) zs0 hK ⟨hP, hY⟩ (zr_recv hK hY.1 rfl) rfl hl.1 rfl (Nat.le_of_ble_eq_true rfl) dL_digest_121 ⟨Nat.le_of_ble_eq_true rfl, Nat.le_of_ble_eq_true rfl⟩ (fun r_121 hr_121 => ?_)
            subst hr_121
            refine zr_i2lw (pc := 124) hx hb dL_digest_124 ?_
            refine zr_ladd (pc := 125) (d := (31 * (itr (dgX g (k : Int)) i (itr (dgf (qCos g (k : Int))) 13 (itr (dgC g) k (dg2 g))))) + (wz (qAlt g ((k : Int)) ((i : Int)) 0))) hx hb dL_digest_125 rfl ?_
            refine lv_lstore_n (pc := 126) (lv' := [(1, .long (zL ((31 * (itr (dgX g (k : Int)) i (itr (dgf (qCos g (k : Int))) 13 (itr (dgC g) k (dg2 g))))) + (wz (qAlt g ((k : Int)) ((i : Int)) 0))))), (0, .ref (ad 120)), (3, .int (zI ((k : Int)))), (4, .int (zI ((i : Int))))]) hx hb dL_digest_126 rfl hl (by decide) rfl (fun ls hl => ?_)
            refine zr_ldc2 (pc := 127) (w := 31) hx hb hown (hts _ (List.mem_of_getElem? (i := 2) rfl)) dL_digest_127 (by decide +kernel) ?_
            refine lv_lload_n (pc := 130) hx hb dL_digest_130 rfl (lv_at hl 0 rfl) ?_
            refine zr_lmul (pc := 131) (d := 31 * ((31 * (itr (dgX g (k : Int)) i (itr (dgf (qCos g (k : Int))) 13 (itr (dgC g) k (dg2 g))))) + (wz (qAlt g ((k : Int)) ((i : Int)) 0)))) hx hb dL_digest_131 rfl ?_
            refine lv_aload_n (pc := 132) hx hb dL_digest_132 rfl (lv_at hl 1 rfl) ?_
            refine lv_iload_n (pc := 133) hx hb dL_digest_133 rfl (lv_at hl 2 rfl) ?_
            refine lv_iload (pc := 134) hx hb dL_digest_134 (lv_at hl 3 rfl) ?_
            refine lv_iconst (pc := 136) (v := zI 1) hx hb dL_digest_136 rfl ?_
            refine zr_vi (pc := 137) (As := [.int (zI ((k : Int))), .int (zI ((i : Int))), .int (zI (1))]) (rest := [.long (zL (31 * ((31 * (itr (dgX g (k : Int)) i (itr (dgf (qCos g (k : Int))) 13 (itr (dgC g) k (dg2 g))))) + (wz (qAlt g ((k : Int)) ((i : Int)) 0)))))]) S (ct_X7_alteration l D cI cT ad σ g hR hI tl tx rd rp ((k : Int)) ((i : Int)) 1 (by omega) (by omega) (by decide)) (cwV 3 hts gL_digest_X7_alteration rfl rfl rfl (by decide +kernel) ⟨Nat.le_of_ble_eq_true rfl, Nat.le_of_ble_eq_true rfl⟩) zs0 hK ⟨hP, hY⟩ (zr_recv hK hY.1 rfl) rfl hl.1 rfl (Nat.le_of_ble_eq_true rfl) dL_digest_137 ⟨Nat.le_of_ble_eq_true rfl, Nat.le_of_ble_eq_true rfl⟩ (fun r_137 hr_137 => ?_)
            subst hr_137
            refine zr_i2lw (pc := 140) hx hb dL_digest_140 ?_
            refine zr_ladd (pc := 141) (d := itr (dgX g (k : Int)) (i + 1) (itr (dgf (qCos g (k : Int))) 13 (itr (dgC g) k (dg2 g)))) hx hb dL_digest_141 (itr_x _ _ _ _) ?_
            refine lv_lstore_n (pc := 142) (lv' := [(1, .long (zL (itr (dgX g (k : Int)) (i + 1) (itr (dgf (qCos g (k : Int))) 13 (itr (dgC g) k (dg2 g)))))), (0, .ref (ad 120)), (3, .int (zI ((k : Int)))), (4, .int (zI ((i : Int))))]) hx hb dL_digest_142 rfl hl (by decide) rfl (fun ls hl => ?_)
            refine zr_iinc (pc := 143) (d := ((i : Int)) + 1) (lv' := [(4, .int (zI (((i : Int)) + 1))), (1, .long (zL (itr (dgX g (k : Int)) (i + 1) (itr (dgf (qCos g (k : Int))) 13 (itr (dgC g) k (dg2 g)))))), (0, .ref (ad 120)), (3, .int (zI ((k : Int))))]) hx hb dL_digest_143 hl (k := 3) rfl rfl (by decide) rfl (fun ls hl => ?_)
            refine lv_goto (pc := 146) (tgt := 104) hx hb dL_digest_146 (by decide) ?_
            exact ih_104 (i + 1) (by omega) (by omega) ls (lv_sub hl [2, 3, 1, 0] rfl)
        · refine zr_ldc2 (pc := 80) (w := 31) hx hb hown (hts _ (List.mem_of_getElem? (i := 2) rfl)) dL_digest_80 (by decide +kernel) ?_
          refine lv_lload_n (pc := 83) hx hb dL_digest_83 rfl (lv_at hl 2 rfl) ?_
          refine zr_lmul (pc := 84) (d := 31 * (itr (dgf (qCos g (k : Int))) i (itr (dgC g) k (dg2 g)))) hx hb dL_digest_84 rfl ?_
          refine lv_aload_n (pc := 85) hx hb dL_digest_85 rfl (lv_at hl 0 rfl) ?_
          refine lv_iload_n (pc := 86) hx hb dL_digest_86 rfl (lv_at hl 1 rfl) ?_
          refine lv_iload (pc := 87) hx hb dL_digest_87 (lv_at hl 3 rfl) ?_
          refine zr_vi (pc := 89) (As := [.int (zI ((k : Int))), .int (zI ((i : Int)))]) (rest := [.long (zL (31 * (itr (dgf (qCos g (k : Int))) i (itr (dgC g) k (dg2 g)))))]) S (ct_X7_costume l D cI cT ad σ g hR hI tl tx rd rp ((k : Int)) ((i : Int)) (by omega) (by omega)) (cwV 2 hts gL_digest_X7_costume rfl rfl rfl (by decide +kernel) ⟨Nat.le_of_ble_eq_true rfl, Nat.le_of_ble_eq_true rfl⟩) zs0 hK ⟨hP, hY⟩ (zr_recv hK hY.1 rfl) rfl hl.1 rfl (Nat.le_of_ble_eq_true rfl) dL_digest_89 ⟨Nat.le_of_ble_eq_true rfl, Nat.le_of_ble_eq_true rfl⟩ (fun r_89 hr_89 => ?_)
          subst hr_89
          refine zr_i2lw (pc := 92) hx hb dL_digest_92 ?_
          refine zr_ladd (pc := 93) (d := itr (dgf (qCos g (k : Int))) (i + 1) (itr (dgC g) k (dg2 g))) hx hb dL_digest_93 (itr_d _ _ _) ?_
          refine lv_lstore_n (pc := 94) (lv' := [(1, .long (zL (itr (dgf (qCos g (k : Int))) (i + 1) (itr (dgC g) k (dg2 g))))), (0, .ref (ad 120)), (3, .int (zI ((k : Int)))), (4, .int (zI ((i : Int))))]) hx hb dL_digest_94 rfl hl (by decide) rfl (fun ls hl => ?_)
          refine zr_iinc (pc := 95) (d := ((i : Int)) + 1) (lv' := [(4, .int (zI (((i : Int)) + 1))), (1, .long (zL (itr (dgf (qCos g (k : Int))) (i + 1) (itr (dgC g) k (dg2 g))))), (0, .ref (ad 120)), (3, .int (zI ((k : Int))))]) hx hb dL_digest_95 hl (k := 3) rfl rfl (by decide) rfl (fun ls hl => ?_)
          refine lv_goto (pc := 98) (tgt := 73) hx hb dL_digest_98 (by decide) ?_
          exact ih_73 (i + 1) (by omega) (by omega) ls (lv_sub hl [2, 3, 1, 0] rfl)
    · refine zr_ldc2 (pc := 40) (w := 31) hx hb hown (hts _ (List.mem_of_getElem? (i := 2) rfl)) dL_digest_40 (by decide +kernel) ?_
      refine lv_lload_n (pc := 43) hx hb dL_digest_43 rfl (lv_at hl 1 rfl) ?_
      refine zr_lmul (pc := 44) (d := 31 * (itr (dgf (fun x => qCou g 0 0 (12 + x))) i (dg1 g))) hx hb dL_digest_44 rfl ?_
      refine lv_aload_n (pc := 45) hx hb dL_digest_45 rfl (lv_at hl 0 rfl) ?_
      refine lv_iload_n (pc := 46) hx hb dL_digest_46 rfl (lv_at hl 2 rfl) ?_
      refine zr_vi (pc := 47) (As := [.int (zI (12 + (i : Int)))]) (rest := [.long (zL (31 * (itr (dgf (fun x => qCou g 0 0 (12 + x))) i (dg1 g))))]) S (ct_X7_count l D cI cT ad σ g hR hI n m tl tx rd rp (12 + (i : Int)) (by omega)) (cwV 1 hts gL_digest_X7_count rfl rfl rfl (by decide +kernel) ⟨Nat.le_of_ble_eq_true rfl, Nat.le_of_ble_eq_true rfl⟩) zs0 hK ⟨hP, hH1, hY⟩ (zr_recv hK hY.1 rfl) rfl hl.1 rfl (Nat.le_of_ble_eq_true rfl) dL_digest_47 ⟨Nat.le_of_ble_eq_true rfl, Nat.le_of_ble_eq_true rfl⟩ (fun r_47 hr_47 => ?_)
      subst hr_47
      refine zr_top (b := qCou g 0 0 (12 + (i : Int))) (qCou_0 (by omega) (by omega)) ?_
      refine zr_i2lw (pc := 50) hx hb dL_digest_50 ?_
      refine zr_ladd (pc := 51) (d := itr (dgf (fun x => qCou g 0 0 (12 + x))) (i + 1) (dg1 g)) hx hb dL_digest_51 (itr_d (fun x => qCou g 0 0 (12 + x)) _ _) ?_
      refine lv_lstore_n (pc := 52) (lv' := [(1, .long (zL (itr (dgf (fun x => qCou g 0 0 (12 + x))) (i + 1) (dg1 g)))), (0, .ref (ad 120)), (3, .int (zI (12 + (i : Int))))]) hx hb dL_digest_52 rfl hl (by decide) rfl (fun ls hl => ?_)
      refine zr_iinc (pc := 53) (d := 12 + ((i + 1 : Nat) : Int)) (lv' := [(3, .int (zI (12 + ((i + 1 : Nat) : Int)))), (1, .long (zL (itr (dgf (fun x => qCou g 0 0 (12 + x))) (i + 1) (dg1 g)))), (0, .ref (ad 120))]) hx hb dL_digest_53 hl (k := 2) rfl (by omega) (by decide) rfl (fun ls hl => ?_)
      refine lv_goto (pc := 56) (tgt := 34) hx hb dL_digest_56 (by decide) ?_
      exact ih_34 (i + 1) (by omega) (by omega) ls (lv_sub hl [2, 1, 0] rfl)
  · refine zr_ldc2 (pc := 12) (w := 31) hx hb hown (hts _ (List.mem_of_getElem? (i := 2) rfl)) dL_digest_12 (by decide +kernel) ?_
    refine lv_lload_n (pc := 15) hx hb dL_digest_15 rfl (lv_at hl 1 rfl) ?_
    refine zr_lmul (pc := 16) (d := 31 * (itr (dgf (qCou g 0 0)) i 7)) hx hb dL_digest_16 rfl ?_
    refine lv_aload_n (pc := 17) hx hb dL_digest_17 rfl (lv_at hl 0 rfl) ?_
    refine lv_iload_n (pc := 18) hx hb dL_digest_18 rfl (lv_at hl 2 rfl) ?_
    refine zr_vi (pc := 19) (As := [.int (zI ((i : Int)))]) (rest := [.long (zL (31 * (itr (dgf (qCou g 0 0)) i 7)))]) S (ct_X7_count l D cI cT ad σ g hR hI n m tl tx rd rp ((i : Int)) (by omega)) (cwV 1 hts gL_digest_X7_count rfl rfl rfl (by decide +kernel) ⟨Nat.le_of_ble_eq_true rfl, Nat.le_of_ble_eq_true rfl⟩) zs0 hK ⟨hP, hH1, hY⟩ (zr_recv hK hY.1 rfl) rfl hl.1 rfl (Nat.le_of_ble_eq_true rfl) dL_digest_19 ⟨Nat.le_of_ble_eq_true rfl, Nat.le_of_ble_eq_true rfl⟩ (fun r_19 hr_19 => ?_)
    subst hr_19
    refine zr_top (b := qCou g 0 0 ((i : Int))) (qCou_0 (by omega) (by omega)) ?_
    refine zr_i2lw (pc := 22) hx hb dL_digest_22 ?_
    refine zr_ladd (pc := 23) (d := itr (dgf (qCou g 0 0)) (i + 1) 7) hx hb dL_digest_23 (itr_d _ _ _) ?_
    refine lv_lstore_n (pc := 24) (lv' := [(1, .long (zL (itr (dgf (qCou g 0 0)) (i + 1) 7))), (0, .ref (ad 120)), (3, .int (zI ((i : Int))))]) hx hb dL_digest_24 rfl hl (by decide) rfl (fun ls hl => ?_)
    refine zr_iinc (pc := 25) (d := ((i : Int)) + 1) (lv' := [(3, .int (zI (((i : Int)) + 1))), (1, .long (zL (itr (dgf (qCou g 0 0)) (i + 1) 7))), (0, .ref (ad 120))]) hx hb dL_digest_25 hl (k := 2) rfl rfl (by decide) rfl (fun ls hl => ?_)
    refine lv_goto (pc := 28) (tgt := 6) hx hb dL_digest_28 (by decide) ?_
    exact ih_6 (i + 1) (by omega) (by omega) ls (lv_sub hl [2, 1, 0] rfl)
