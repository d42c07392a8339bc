set_option maxHeartbeats 4000000 in
set_option maxRecDepth 100000 in
theorem ct_L_isRight (l : Launch) (D : va_G) (cI cT : ClassId) (bs : Nat) (ad : Nat → Nat) (σ : Nat → Int → Int) (g : Int → Int) (hR : Rel σ g) (hSI : SI g) (n m : Int) (tl : Int) (tx rd rp : Int → Int) : zMr l yL_isRight wsL_isRight ({ frames := 8, cells := 0, slots := 0, locals := 187 }) D cI cT [.ref (ad 120)] (fun U H => (zW D ad 20 (sC cI ad σ) H ∧ hO1 D ad n m H ∧ cY D cI ad tl tx rd rp H) ∧ zT bs U H) (fun r => r = zI 1) := by
  refine Met.ofW (cc := cL_isRight) (maxL := 10) (ret := (some .boolean)) (by decide) rfl ?_
  intro p_ e_ s m_ args below meth c_ s₁ B hml hv
  obtain ⟨rfl, hK, hF⟩ := hv
  have hx := B.exec
  have hb := B.bytes
  have hr := B.returns
  have hts := atoms_spec (ws := wsL_isRight) B.pre
  have hown : s.vm.findClass RL = some m_.cls := findClass_of_methodNamed B.named
  have hlocks := B.notSynchronized
  have S : CallFix p_ m_ c_ cL_isRight 10 s _ wsL_isRight RL := ⟨hx, hb, hml, hown, hts⟩
  obtain ⟨⟨hP, hH1, hY⟩, hT⟩ := hF
  have hI := hSI.1
  obtain ⟨_, hA, hF5, hN⟩ := hSI
  have hnC := iv_nC hI
  have hnA := iv_nA hI
  have hnH := iv_nH hI
  have hto := iv_to hI
  have hab := aset_b7 hI
  have h5b := fe_bd hI hF5
  have hl := lv_entry ([.ref (ad 120)]) (n := 10) (Nat.le_of_ble_eq_true rfl)
  rw [lg_entry_eq]
  generalize (lg_sl ([.ref (ad 120)]) ++ List.replicate (10 - (lg_sl ([.ref (ad 120)])).length) Slot.unset).toArray = ls at hl ⊢
  have hl : lv_has ls 10 [(0, .ref (ad 120))] := hl
  refine lv_aload_n (pc := 0) hx hb dL_isRight_0 rfl (lv_at hl 0 rfl) ?_
  refine lv_iconst (pc := 1) (v := zI 0) hx hb dL_isRight_1 rfl ?_
  refine zr_vi (pc := 2) (As := [.int (zI (0))]) (rest := []) S (ct_X7_count l D cI cT ad σ g hR hI n m tl tx rd rp 0 (by decide)) (cwV 1 hts gL_isRight_X7_count rfl rfl rfl (by decide +kernel) ⟨Nat.le_of_ble_eq_true rfl, Nat.le_of_ble_eq_true rfl⟩) zs0 hK ⟨hP, hH1, hY⟩ (zr_recv hK hY.1 rfl) rfl hl.1 rfl (Nat.le_of_ble_eq_true rfl) dL_isRight_2 ⟨Nat.le_of_ble_eq_true rfl, Nat.le_of_ble_eq_true rfl⟩ (fun r_2 hr_2 => ?_)
  subst hr_2
  refine zr_top (b := g 0) (rfl) ?_
  refine lv_istore_n (pc := 5) (lv' := [(1, .int (zI (g 0))), (0, .ref (ad 120))]) hx hb dL_isRight_5 rfl hl (by decide) rfl (fun ls hl => ?_)
  refine lv_iconst (pc := 6) (v := zI 0) hx hb dL_isRight_6 rfl ?_
  refine zr_top (b := awS g 0) (awS_0 g).symm ?_
  refine lv_istore_n (pc := 7) (lv' := [(2, .int (zI (awS g 0))), (1, .int (zI (g 0))), (0, .ref (ad 120))]) hx hb dL_isRight_7 rfl hl (by decide) rfl (fun ls hl => ?_)
  refine lv_iconst (pc := 8) (v := zI 0) hx hb dL_isRight_8 rfl ?_
  refine lv_istore_n (pc := 9) (lv' := [(3, .int (zI (0))), (2, .int (zI (awS g 0))), (1, .int (zI (g 0))), (0, .ref (ad 120))]) hx hb dL_isRight_9 rfl hl (by decide) rfl (fun ls hl => ?_)
  refine lv_iconst (pc := 10) (v := zI 0) hx hb dL_isRight_10 rfl ?_
  refine lv_istore (pc := 11) (lv' := [(4, .int (zI (0))), (3, .int (zI (0))), (2, .int (zI (awS g 0))), (1, .int (zI (g 0))), (0, .ref (ad 120))]) hx hb dL_isRight_11 hl (by decide) rfl (fun ls hl => ?_)
  refine lv_iconst (pc := 13) (v := zI 0) hx hb dL_isRight_13 rfl ?_
  refine lv_istore (pc := 14) (lv' := [(5, .int (zI (0))), (4, .int (zI (0))), (3, .int (zI (0))), (2, .int (zI (awS g 0))), (1, .int (zI (g 0))), (0, .ref (ad 120))]) hx hb dL_isRight_14 hl (by decide) rfl (fun ls hl => ?_)
  refine zr_loop1 (fun (k : Nat) => ((k : Int) ≤ g 0)) (fun (k : Nat) => (g 0 : Int).toNat - k) (fun (k : Nat) => [(0, .ref (ad 120)), (1, .int (zI (g 0))), (2, .int (zI (awS g 0))), (3, .int (zI (0))), (4, .int (zI (0))), (5, .int (zI ((k : Int))))]) ?_ (0) (by omega) (lv_sub hl [5, 4, 3, 2, 1, 0] rfl)
  intro k hinv ih_16 ls hl
  obtain h_k := hinv
  refine lv_iload (pc := 16) hx hb dL_isRight_16 (lv_at hl 5 rfl) ?_
  refine lv_iload_n (pc := 18) hx hb dL_isRight_18 rfl (lv_at hl 1 rfl) ?_
  refine zr_icmp_ge (pc := 19) (tgt := 329) hx hb dL_isRight_19 (by decide) (by omega) (by omega) (fun c_19 => ?_) (fun c_19 => ?_)
  · refine lv_iconst (pc := 329) (v := zI 0) hx hb dL_isRight_329 rfl ?_
    refine lv_istore (pc := 330) (lv' := [(5, .int (zI (0))), (0, .ref (ad 120)), (1, .int (zI (g 0))), (2, .int (zI (awS g 0))), (3, .int (zI (0))), (4, .int (zI (0)))]) hx hb dL_isRight_330 hl (by decide) rfl (fun ls hl => ?_)
    refine zr_loop1 (fun (k : Nat) => ((k : Int) ≤ g 2)) (fun (k : Nat) => (g 2 : Int).toNat - k) (fun (k : Nat) => [(0, .ref (ad 120)), (1, .int (zI (g 0))), (2, .int (zI (awS g (k : Int)))), (3, .int (zI (sm (fun h => gH g h 3) k))), (4, .int (zI (0))), (5, .int (zI ((k : Int))))]) ?_ (0) (by omega) (lv_sub hl [1, 2, 3, 4, 5, 0] rfl)
    intro k hinv ih_332 ls hl
    obtain h_k := hinv
    refine lv_iload (pc := 332) hx hb dL_isRight_332 (lv_at hl 5 rfl) ?_
    refine lv_aload_n (pc := 334) hx hb dL_isRight_334 rfl (lv_at hl 0 rfl) ?_
    refine lv_iconst (pc := 335) (v := zI 2) hx hb dL_isRight_335 rfl ?_
    refine zr_vi (pc := 336) (As := [.int (zI (2))]) (rest := [.int (zI ((k : Int)))]) S (ct_X7_count l D cI cT ad σ g hR hI n m tl tx rd rp 2 (by decide)) (cwV 1 hts gL_isRight_X7_count rfl rfl rfl (by decide +kernel) ⟨Nat.le_of_ble_eq_true rfl, Nat.le_of_ble_eq_true rfl⟩) zs0 hK ⟨hP, hH1, hY⟩ (zr_recv hK hY.1 rfl) rfl hl.1 rfl (Nat.le_of_ble_eq_true rfl) dL_isRight_336 ⟨Nat.le_of_ble_eq_true rfl, Nat.le_of_ble_eq_true rfl⟩ (fun r_336 hr_336 => ?_)
    subst hr_336
    refine zr_top (b := g 2) (rfl) ?_
    refine zr_icmp_ge (pc := 339) (tgt := 490) hx hb dL_isRight_339 (by decide) (by omega) (by omega) (fun c_339 => ?_) (fun c_339 => ?_)
    · rw [awS_e g (j := (k : Int)) (by omega), show sm (fun h => gH g h 3) k = g 5 from (by rw [show k = (g 2).toNat by omega]; exact Eq.symm hF5)] at hl
      refine lv_iconst (pc := 490) (v := zI 0) hx hb dL_isRight_490 rfl ?_
      refine lv_istore (pc := 491) (lv' := [(5, .int (zI (0))), (0, .ref (ad 120)), (1, .int (zI (g 0))), (2, .int (zI (aset g (g 0).toNat))), (3, .int (zI (g 5))), (4, .int (zI (0)))]) hx hb dL_isRight_491 hl (by decide) rfl (fun ls hl => ?_)
      refine zr_loop1 (fun (p : Nat) => ((p : Int) ≤ 4)) (fun (p : Nat) => (4 : Int).toNat - p) (fun (p : Nat) => [(0, .ref (ad 120)), (1, .int (zI (g 0))), (2, .int (zI (aset g (g 0).toNat))), (3, .int (zI (g 5))), (4, .int (zI (0))), (5, .int (zI ((p : Int))))]) ?_ (0) (by omega) (lv_sub hl [1, 2, 3, 4, 5, 0] rfl)
      intro p hinv ih_493 ls hl
      obtain h_p := hinv
      refine lv_iload (pc := 493) hx hb dL_isRight_493 (lv_at hl 5 rfl) ?_
      refine lv_iconst (pc := 495) (v := zI 4) hx hb dL_isRight_495 rfl ?_
      refine zr_icmp_ge (pc := 496) (tgt := 610) hx hb dL_isRight_496 (by decide) (by omega) (by decide) (fun c_496 => ?_) (fun c_496 => ?_)
      · refine lv_iconst (pc := 610) (v := zI 0) hx hb dL_isRight_610 rfl ?_
        refine lv_istore (pc := 611) (lv' := [(5, .int (zI (0))), (0, .ref (ad 120)), (1, .int (zI (g 0))), (2, .int (zI (aset g (g 0).toNat))), (3, .int (zI (g 5))), (4, .int (zI (0)))]) hx hb dL_isRight_611 hl (by decide) rfl (fun ls hl => ?_)
        refine zr_loop2 (fun (k : Nat) (x : Int) => ((k : Int) ≤ 5) ∧ (0 ≤ x ∧ x ≤ 200 * (k : Int))) (fun (k : Nat) (x : Int) => 5 - k) (fun (k : Nat) (x : Int) => [(0, .ref (ad 120)), (1, .int (zI (g 0))), (2, .int (zI (aset g (g 0).toNat))), (3, .int (zI (g 5))), (4, .int (zI (x))), (5, .int (zI ((k : Int))))]) ?_ (0) (0) (⟨by omega, by omega⟩) (lv_sub hl [1, 2, 3, 4, 5, 0] rfl)
        intro k x hinv ih_613 ls hl
        obtain ⟨h_k, h_x⟩ := hinv
        refine lv_iload (pc := 613) hx hb dL_isRight_613 (lv_at hl 5 rfl) ?_
        refine lv_iconst (pc := 615) (v := zI 5) hx hb dL_isRight_615 rfl ?_
        refine zr_icmp_ge (pc := 616) (tgt := 636) hx hb dL_isRight_616 (by decide) (by omega) (by decide) (fun c_616 => ?_) (fun c_616 => ?_)
        · refine lv_iload_n (pc := 636) hx hb dL_isRight_636 rfl (lv_at hl 2 rfl) ?_
          refine lv_aload_n (pc := 637) hx hb dL_isRight_637 rfl (lv_at hl 0 rfl) ?_
          refine lv_bipush (pc := 638) (v := zI 8) hx hb dL_isRight_638 zc_bipush_8 ?_
          refine zr_vi (pc := 640) (As := [.int (zI (8))]) (rest := [.int (zI (aset g (g 0).toNat))]) S (ct_X7_count l D cI cT ad σ g hR hI n m tl tx rd rp 8 (by decide)) (cwV 1 hts gL_isRight_X7_count rfl rfl rfl (by decide +kernel) ⟨Nat.le_of_ble_eq_true rfl, Nat.le_of_ble_eq_true rfl⟩) zs0 hK ⟨hP, hH1, hY⟩ (zr_recv hK hY.1 rfl) rfl hl.1 rfl (Nat.le_of_ble_eq_true rfl) dL_isRight_640 ⟨Nat.le_of_ble_eq_true rfl, Nat.le_of_ble_eq_true rfl⟩ (fun r_640 hr_640 => ?_)
          subst hr_640
          refine zr_top (b := aset g (g 0).toNat) (rfl) ?_
          refine zr_icmp_ne (pc := 643) (tgt := 665) hx hb dL_isRight_643 (by decide) (by omega) (by omega) (fun c_643 => ?_) (fun c_643 => ?_)
          · exact absurd rfl c_643
          · refine lv_iload_n (pc := 646) hx hb dL_isRight_646 rfl (lv_at hl 3 rfl) ?_
            refine lv_aload_n (pc := 647) hx hb dL_isRight_647 rfl (lv_at hl 0 rfl) ?_
            refine lv_bipush (pc := 648) (v := zI 6) hx hb dL_isRight_648 zc_bipush_6 ?_
            refine zr_vi (pc := 650) (As := [.int (zI (6))]) (rest := [.int (zI (g 5))]) S (ct_X7_count l D cI cT ad σ g hR hI n m tl tx rd rp 6 (by decide)) (cwV 1 hts gL_isRight_X7_count rfl rfl rfl (by decide +kernel) ⟨Nat.le_of_ble_eq_true rfl, Nat.le_of_ble_eq_true rfl⟩) zs0 hK ⟨hP, hH1, hY⟩ (zr_recv hK hY.1 rfl) rfl hl.1 rfl (Nat.le_of_ble_eq_true rfl) dL_isRight_650 ⟨Nat.le_of_ble_eq_true rfl, Nat.le_of_ble_eq_true rfl⟩ (fun r_650 hr_650 => ?_)
            subst hr_650
            refine zr_top (b := g 5) (rfl) ?_
            refine zr_icmp_ne (pc := 653) (tgt := 665) hx hb dL_isRight_653 (by decide) (by omega) (by omega) (fun c_653 => ?_) (fun c_653 => ?_)
            · exact absurd rfl c_653
            · refine lv_iload (pc := 656) hx hb dL_isRight_656 (lv_at hl 4 rfl) ?_
              refine zr_if_lt (pc := 658) (tgt := 665) hx hb dL_isRight_658 (by decide) (by omega) (fun c_658 => ?_) (fun c_658 => ?_)
              · exact absurd c_658 (by omega)
              · refine lv_iconst (pc := 661) (v := zI 1) hx hb dL_isRight_661 rfl ?_
                refine lv_goto (pc := 662) (tgt := 666) hx hb dL_isRight_662 (by decide) ?_
                exact W.zret (ty := .boolean) (v := zI (1)) hx hb hr (by first | rfl | decide) (fun tz ht hW => ⟨_, rfl, rfl, ht⟩) (fun _ h => by cases h) dL_isRight_666
        · refine lv_iload (pc := 619) hx hb dL_isRight_619 (lv_at hl 4 rfl) ?_
          refine lv_aload_n (pc := 621) hx hb dL_isRight_621 rfl (lv_at hl 0 rfl) ?_
          refine lv_iload (pc := 622) hx hb dL_isRight_622 (lv_at hl 5 rfl) ?_
          refine zr_vi (pc := 624) (As := [.int (zI ((k : Int)))]) (rest := [.int (zI (x))]) S (ct_X7_problems l D cI cT ad σ g hR hI tl tx rd rp ((k : Int)) (by omega)) (cwV 1 hts gL_isRight_X7_problems rfl rfl rfl (by decide +kernel) ⟨Nat.le_of_ble_eq_true rfl, Nat.le_of_ble_eq_true rfl⟩) zs0 hK ⟨hP, hY⟩ (zr_recv hK hY.1 rfl) rfl hl.1 rfl (Nat.le_of_ble_eq_true rfl) dL_isRight_624 ⟨Nat.le_of_ble_eq_true rfl, Nat.le_of_ble_eq_true rfl⟩ (fun r_624 hr_624 => ?_)
          subst hr_624
          refine zr_top (b := prb g (k : Int)) (tft ⟨by omega, by omega⟩) ?_
          have hpb := prb_bd hI (k : Int)
          refine zr_iadd (pc := 627) (d := x + (prb g (k : Int))) hx hb dL_isRight_627 rfl ?_
          refine lv_istore (pc := 628) (lv' := [(4, .int (zI (x + (prb g (k : Int))))), (0, .ref (ad 120)), (1, .int (zI (g 0))), (2, .int (zI (aset g (g 0).toNat))), (3, .int (zI (g 5))), (5, .int (zI ((k : Int))))]) hx hb dL_isRight_628 hl (by decide) rfl (fun ls hl => ?_)
          refine zr_iinc (pc := 630) (d := ((k : Int)) + 1) (lv' := [(5, .int (zI (((k : Int)) + 1))), (4, .int (zI (x + (prb g (k : Int))))), (0, .ref (ad 120)), (1, .int (zI (g 0))), (2, .int (zI (aset g (g 0).toNat))), (3, .int (zI (g 5)))]) hx hb dL_isRight_630 hl (k := 5) rfl rfl (by decide) rfl (fun ls hl => ?_)
          refine lv_goto (pc := 633) (tgt := 613) hx hb dL_isRight_633 (by decide) ?_
          exact ih_613 (k + 1) ((x + (prb g (k : Int)))) (⟨by omega, by omega⟩) (by omega) ls (lv_sub hl [2, 3, 4, 5, 1, 0] rfl)
      · refine lv_iconst (pc := 499) (v := zI 0) hx hb dL_isRight_499 rfl ?_
        refine lv_istore (pc := 500) (lv' := [(6, .int (zI (0))), (0, .ref (ad 120)), (1, .int (zI (g 0))), (2, .int (zI (aset g (g 0).toNat))), (3, .int (zI (g 5))), (4, .int (zI (0))), (5, .int (zI ((p : Int))))]) hx hb dL_isRight_500 hl (by decide) rfl (fun ls hl => ?_)
        refine zr_loop1 (fun (q : Nat) => ((q : Int) ≤ 2)) (fun (q : Nat) => (2 : Int).toNat - q) (fun (q : Nat) => [(0, .ref (ad 120)), (1, .int (zI (g 0))), (2, .int (zI (aset g (g 0).toNat))), (3, .int (zI (g 5))), (4, .int (zI (0))), (5, .int (zI ((p : Int)))), (6, .int (zI ((q : Int))))]) ?_ (0) (by omega) (lv_sub hl [1, 2, 3, 4, 5, 6, 0] rfl)
        intro q hinv ih_502 ls hl
        obtain h_q := hinv
        refine lv_iload (pc := 502) hx hb dL_isRight_502 (lv_at hl 6 rfl) ?_
        refine lv_iconst (pc := 504) (v := zI 2) hx hb dL_isRight_504 rfl ?_
        refine zr_icmp_ge (pc := 505) (tgt := 604) hx hb dL_isRight_505 (by decide) (by omega) (by decide) (fun c_505 => ?_) (fun c_505 => ?_)
        · refine zr_iinc (pc := 604) (d := ((p : Int)) + 1) (lv' := [(5, .int (zI (((p : Int)) + 1))), (0, .ref (ad 120)), (1, .int (zI (g 0))), (2, .int (zI (aset g (g 0).toNat))), (3, .int (zI (g 5))), (4, .int (zI (0))), (6, .int (zI ((q : Int))))]) hx hb dL_isRight_604 hl (k := 5) rfl rfl (by decide) rfl (fun ls hl => ?_)
          refine lv_goto (pc := 607) (tgt := 493) hx hb dL_isRight_607 (by decide) ?_
          exact ih_493 (p + 1) (by omega) (by omega) ls (lv_sub hl [1, 2, 3, 4, 5, 0] rfl)
        · refine lv_aload_n (pc := 508) hx hb dL_isRight_508 rfl (lv_at hl 0 rfl) ?_
          refine lv_iload (pc := 509) hx hb dL_isRight_509 (lv_at hl 5 rfl) ?_
          refine lv_iload (pc := 511) hx hb dL_isRight_511 (lv_at hl 6 rfl) ?_
          refine zr_vi (pc := 513) (As := [.int (zI ((p : Int))), .int (zI ((q : Int)))]) (rest := []) S (ct_X7_washable l D cI cT bs ad σ g hR hI tl tx rd rp ((p : Int)) ((q : Int)) (by omega) (by omega)) (cwV 2 hts gL_isRight_X7_washable rfl rfl rfl (by decide +kernel) ⟨Nat.le_of_ble_eq_true rfl, Nat.le_of_ble_eq_true rfl⟩) zs_T hK ⟨⟨hP, hY⟩, hT⟩ (zr_recv hK hY.1 rfl) rfl hl.1 rfl (Nat.le_of_ble_eq_true rfl) dL_isRight_513 ⟨Nat.le_of_ble_eq_true rfl, Nat.le_of_ble_eq_true rfl⟩ (fun r_513 hr_513 => ?_)
          subst hr_513
          refine zr_top (b := dset g (p : Int) (q : Int) (g 0).toNat) (tft ⟨⟨by omega, by omega⟩, by omega, by omega⟩) ?_
          have hdb := dset_b7 hI (p : Int) (q : Int)
          refine lv_istore (pc := 516) (lv' := [(7, .int (zI (dset g (p : Int) (q : Int) (g 0).toNat))), (0, .ref (ad 120)), (1, .int (zI (g 0))), (2, .int (zI (aset g (g 0).toNat))), (3, .int (zI (g 5))), (4, .int (zI (0))), (5, .int (zI ((p : Int)))), (6, .int (zI ((q : Int))))]) hx hb dL_isRight_516 hl (by decide) rfl (fun ls hl => ?_)
          refine lv_iconst (pc := 518) (v := zI 0) hx hb dL_isRight_518 rfl ?_
          refine lv_istore (pc := 519) (lv' := [(8, .int (zI (0))), (7, .int (zI (dset g (p : Int) (q : Int) (g 0).toNat))), (0, .ref (ad 120)), (1, .int (zI (g 0))), (2, .int (zI (aset g (g 0).toNat))), (3, .int (zI (g 5))), (4, .int (zI (0))), (5, .int (zI ((p : Int)))), (6, .int (zI ((q : Int))))]) hx hb dL_isRight_519 hl (by decide) rfl (fun ls hl => ?_)
          refine zr_loop1 (fun (k : Nat) => ((k : Int) ≤ g 0)) (fun (k : Nat) => (g 0 : Int).toNat - k) (fun (k : Nat) => [(0, .ref (ad 120)), (1, .int (zI (g 0))), (2, .int (zI (aset g (g 0).toNat))), (3, .int (zI (g 5))), (4, .int (zI (0))), (5, .int (zI ((p : Int)))), (6, .int (zI ((q : Int)))), (7, .int (zI (dset g (p : Int) (q : Int) (g 0).toNat))), (8, .int (zI ((k : Int))))]) ?_ (0) (by omega) (lv_sub hl [2, 3, 4, 5, 6, 7, 8, 1, 0] rfl)
          intro k hinv ih_521 ls hl
          obtain h_k := hinv
          refine lv_iload (pc := 521) hx hb dL_isRight_521 (lv_at hl 8 rfl) ?_
          refine lv_iload_n (pc := 523) hx hb dL_isRight_523 rfl (lv_at hl 1 rfl) ?_
          refine zr_icmp_ge (pc := 524) (tgt := 598) hx hb dL_isRight_524 (by decide) (by omega) (by omega) (fun c_524 => ?_) (fun c_524 => ?_)
          · refine zr_iinc (pc := 598) (d := ((q : Int)) + 1) (lv' := [(6, .int (zI (((q : Int)) + 1))), (0, .ref (ad 120)), (1, .int (zI (g 0))), (2, .int (zI (aset g (g 0).toNat))), (3, .int (zI (g 5))), (4, .int (zI (0))), (5, .int (zI ((p : Int)))), (7, .int (zI (dset g (p : Int) (q : Int) (g 0).toNat))), (8, .int (zI ((k : Int))))]) hx hb dL_isRight_598 hl (k := 6) rfl rfl (by decide) rfl (fun ls hl => ?_)
            refine lv_goto (pc := 601) (tgt := 502) hx hb dL_isRight_601 (by decide) ?_
            exact ih_502 (q + 1) (by omega) (by omega) ls (lv_sub hl [1, 2, 3, 4, 5, 6, 0] rfl)
          · refine lv_iload (pc := 527) hx hb dL_isRight_527 (lv_at hl 7 rfl) ?_
            refine lv_iload (pc := 529) hx hb dL_isRight_529 (lv_at hl 8 rfl) ?_
            refine zr_ishr (pc := 531) (d := (dset g (p : Int) (q : Int) (g 0).toNat) / pw ((k : Int))) hx hb dL_isRight_531 (zi_shr (by omega) (by omega) (by omega) (by omega)) ?_
            refine lv_iconst (pc := 532) (v := zI 1) hx hb dL_isRight_532 rfl ?_
            refine zr_iand (pc := 533) (d := ((dset g (p : Int) (q : Int) (g 0).toNat) / pw ((k : Int))) % 2) hx hb dL_isRight_533 (zi_and1 (dv_bd (by omega) (by omega) _).1 (Int.le_trans (dv_bd (by omega) (by omega) _).2 (by decide))) ?_
            refine lv_iconst (pc := 534) (v := zI 1) hx hb dL_isRight_534 rfl ?_
            refine zr_icmp_ne (pc := 535) (tgt := 542) hx hb dL_isRight_535 (by decide) (by omega) (by decide) (fun c_535 => ?_) (fun c_535 => ?_)
            · refine lv_iconst (pc := 542) (v := zI 0) hx hb dL_isRight_542 rfl ?_
              refine lv_istore (pc := 543) (lv' := [(9, .int (zI (0))), (0, .ref (ad 120)), (1, .int (zI (g 0))), (2, .int (zI (aset g (g 0).toNat))), (3, .int (zI (g 5))), (4, .int (zI (0))), (5, .int (zI ((p : Int)))), (6, .int (zI ((q : Int)))), (7, .int (zI (dset g (p : Int) (q : Int) (g 0).toNat))), (8, .int (zI ((k : Int))))]) hx hb dL_isRight_543 hl (by decide) rfl (fun ls hl => ?_)
              refine lv_iload (pc := 545) hx hb dL_isRight_545 (lv_at hl 0 rfl) ?_
              refine zr_if_eq (pc := 547) (tgt := 592) hx hb dL_isRight_547 (by decide) (by decide) (fun _ => ?_) (fun z => absurd z (by decide))
              refine zr_iinc (pc := 592) (d := ((k : Int)) + 1) (lv' := [(8, .int (zI (((k : Int)) + 1))), (9, .int (zI (0))), (0, .ref (ad 120)), (1, .int (zI (g 0))), (2, .int (zI (aset g (g 0).toNat))), (3, .int (zI (g 5))), (4, .int (zI (0))), (5, .int (zI ((p : Int)))), (6, .int (zI ((q : Int)))), (7, .int (zI (dset g (p : Int) (q : Int) (g 0).toNat)))]) hx hb dL_isRight_592 hl (k := 9) rfl rfl (by decide) rfl (fun ls hl => ?_)
              refine lv_goto (pc := 595) (tgt := 521) hx hb dL_isRight_595 (by decide) ?_
              exact ih_521 (k + 1) (by omega) (by omega) ls (lv_sub hl [2, 3, 4, 5, 6, 7, 8, 9, 0] rfl)
            · refine lv_iconst (pc := 538) (v := zI 1) hx hb dL_isRight_538 rfl ?_
              refine lv_goto (pc := 539) (tgt := 543) hx hb dL_isRight_539 (by decide) ?_
              refine lv_istore (pc := 543) (lv' := [(9, .int (zI (1))), (0, .ref (ad 120)), (1, .int (zI (g 0))), (2, .int (zI (aset g (g 0).toNat))), (3, .int (zI (g 5))), (4, .int (zI (0))), (5, .int (zI ((p : Int)))), (6, .int (zI ((q : Int)))), (7, .int (zI (dset g (p : Int) (q : Int) (g 0).toNat))), (8, .int (zI ((k : Int))))]) hx hb dL_isRight_543 hl (by decide) rfl (fun ls hl => ?_)
              refine lv_iload (pc := 545) hx hb dL_isRight_545 (lv_at hl 0 rfl) ?_
              refine zr_if_eq (pc := 547) (tgt := 592) hx hb dL_isRight_547 (by decide) (by decide) (fun z => absurd z (by decide)) (fun _ => ?_)
              obtain ⟨d1, d2, d3, d4⟩ := (dset_bit (p := (p : Int)) (q := (q : Int)) (k := (k : Int)) (by omega) (by omega)).mp c_535
              refine lv_aload_n (pc := 550) hx hb dL_isRight_550 rfl (lv_at hl 1 rfl) ?_
              refine lv_iload (pc := 551) hx hb dL_isRight_551 (lv_at hl 9 rfl) ?_
              refine lv_bipush (pc := 553) (v := zI 9) hx hb dL_isRight_553 zc_bipush_9 ?_
              refine zr_vi (pc := 555) (As := [.int (zI ((k : Int))), .int (zI (9))]) (rest := []) S (ct_X7_costume l D cI cT ad σ g hR hI tl tx rd rp ((k : Int)) 9 (by omega) (by decide)) (cwV 2 hts gL_isRight_X7_costume rfl rfl rfl (by decide +kernel) ⟨Nat.le_of_ble_eq_true rfl, Nat.le_of_ble_eq_true rfl⟩) zs0 hK ⟨hP, hY⟩ (zr_recv hK hY.1 rfl) rfl hl.1 rfl (Nat.le_of_ble_eq_true rfl) dL_isRight_555 ⟨Nat.le_of_ble_eq_true rfl, Nat.le_of_ble_eq_true rfl⟩ (fun r_555 hr_555 => ?_)
              subst hr_555
              refine zr_top (b := gC g ((k : Int)) 6) (qCos_c (by omega) (by omega) (by decide) (by decide) (by decide)) ?_
              have hdi := iv_di hI (c := (k : Int)) (by omega) (by omega)
              refine zr_if_eq (pc := 558) (tgt := 590) hx hb dL_isRight_558 (by decide) (by omega) (fun c_558 => ?_) (fun c_558 => ?_)
              · exact absurd c_558 (by omega)
              · refine lv_iload_n (pc := 561) hx hb dL_isRight_561 rfl (lv_at hl 3 rfl) ?_
                refine lv_iload (pc := 562) hx hb dL_isRight_562 (lv_at hl 9 rfl) ?_
                refine zr_ishr (pc := 564) (d := (aset g (g 0).toNat) / pw ((k : Int))) hx hb dL_isRight_564 (zi_shr (by omega) (by omega) (by omega) (by omega)) ?_
                refine lv_iconst (pc := 565) (v := zI 1) hx hb dL_isRight_565 rfl ?_
                refine zr_iand (pc := 566) (d := ((aset g (g 0).toNat) / pw ((k : Int))) % 2) hx hb dL_isRight_566 (zi_and1 (dv_bd (by omega) (by omega) _).1 (Int.le_trans (dv_bd (by omega) (by omega) _).2 (by decide))) ?_
                refine lv_iconst (pc := 567) (v := zI 1) hx hb dL_isRight_567 rfl ?_
                refine zr_icmp_eq (pc := 568) (tgt := 590) hx hb dL_isRight_568 (by decide) (by omega) (by decide) (fun c_568 => ?_) (fun c_568 => ?_)
                · exact absurd ((aset_bit (by omega) (by omega)).mp c_568) d3
                · refine lv_iload (pc := 571) hx hb dL_isRight_571 (lv_at hl 6 rfl) ?_
                  refine lv_iconst (pc := 573) (v := zI 3) hx hb dL_isRight_573 rfl ?_
                  refine zr_icmp_ge (pc := 574) (tgt := 592) hx hb dL_isRight_574 (by decide) (by omega) (by decide) (fun c_574 => ?_) (fun c_574 => ?_)
                  · refine zr_iinc (pc := 592) (d := ((k : Int)) + 1) (lv' := [(8, .int (zI (((k : Int)) + 1))), (9, .int (zI (1))), (0, .ref (ad 120)), (1, .int (zI (g 0))), (2, .int (zI (aset g (g 0).toNat))), (3, .int (zI (g 5))), (4, .int (zI (0))), (5, .int (zI ((p : Int)))), (6, .int (zI ((q : Int)))), (7, .int (zI (dset g (p : Int) (q : Int) (g 0).toNat)))]) hx hb dL_isRight_592 hl (k := 9) rfl rfl (by decide) rfl (fun ls hl => ?_)
                    refine lv_goto (pc := 595) (tgt := 521) hx hb dL_isRight_595 (by decide) ?_
                    exact ih_521 (k + 1) (by omega) (by omega) ls (lv_sub hl [2, 3, 4, 5, 6, 7, 8, 9, 0] rfl)
                  · refine lv_aload_n (pc := 577) hx hb dL_isRight_577 rfl (lv_at hl 1 rfl) ?_
                    refine lv_iload (pc := 578) hx hb dL_isRight_578 (lv_at hl 9 rfl) ?_
                    refine lv_bipush (pc := 580) (v := zI 8) hx hb dL_isRight_580 zc_bipush_8 ?_
                    refine zr_vi (pc := 582) (As := [.int (zI ((k : Int))), .int (zI (8))]) (rest := []) S (ct_X7_costume l D cI cT ad σ g hR hI tl tx rd rp ((k : Int)) 8 (by omega) (by decide)) (cwV 2 hts gL_isRight_X7_costume rfl rfl rfl (by decide +kernel) ⟨Nat.le_of_ble_eq_true rfl, Nat.le_of_ble_eq_true rfl⟩) zs0 hK ⟨hP, hY⟩ (zr_recv hK hY.1 rfl) rfl hl.1 rfl (Nat.le_of_ble_eq_true rfl) dL_isRight_582 ⟨Nat.le_of_ble_eq_true rfl, Nat.le_of_ble_eq_true rfl⟩ (fun r_582 hr_582 => ?_)
                    subst hr_582
                    refine zr_top (b := gC g ((k : Int)) 5) (qCos_c (by omega) (by omega) (by decide) (by decide) (by decide)) ?_
                    have hcl := iv_cl hI (c := (k : Int)) (by omega) (by omega)
                    refine lv_iload (pc := 585) hx hb dL_isRight_585 (lv_at hl 7 rfl) ?_
                    refine zr_icmp_eq (pc := 587) (tgt := 592) hx hb dL_isRight_587 (by decide) (by omega) (by omega) (fun c_587 => ?_) (fun c_587 => ?_)
                    · refine zr_iinc (pc := 592) (d := ((k : Int)) + 1) (lv' := [(8, .int (zI (((k : Int)) + 1))), (9, .int (zI (1))), (0, .ref (ad 120)), (1, .int (zI (g 0))), (2, .int (zI (aset g (g 0).toNat))), (3, .int (zI (g 5))), (4, .int (zI (0))), (5, .int (zI ((p : Int)))), (6, .int (zI ((q : Int)))), (7, .int (zI (dset g (p : Int) (q : Int) (g 0).toNat)))]) hx hb dL_isRight_592 hl (k := 9) rfl rfl (by decide) rfl (fun ls hl => ?_)
                      refine lv_goto (pc := 595) (tgt := 521) hx hb dL_isRight_595 (by decide) ?_
                      exact ih_521 (k + 1) (by omega) (by omega) ls (lv_sub hl [2, 3, 4, 5, 6, 7, 8, 9, 0] rfl)
                    · exact absurd d1 (by omega)
    · refine lv_aload_n (pc := 342) hx hb dL_isRight_342 rfl (lv_at hl 0 rfl) ?_
      refine lv_iload (pc := 343) hx hb dL_isRight_343 (lv_at hl 5 rfl) ?_
      refine lv_iconst (pc := 345) (v := zI 1) hx hb dL_isRight_345 rfl ?_
      refine zr_vi (pc := 346) (As := [.int (zI ((k : Int))), .int (zI (1))]) (rest := []) S (ct_X7_hired l D cI cT ad σ g hR hI tl tx rd rp ((k : Int)) 1 (by omega) (by decide)) (cwV 2 hts gL_isRight_X7_hired rfl rfl rfl (by decide +kernel) ⟨Nat.le_of_ble_eq_true rfl, Nat.le_of_ble_eq_true rfl⟩) zs0 hK ⟨hP, hY⟩ (zr_recv hK hY.1 rfl) rfl hl.1 rfl (Nat.le_of_ble_eq_true rfl) dL_isRight_346 ⟨Nat.le_of_ble_eq_true rfl, Nat.le_of_ble_eq_true rfl⟩ (fun r_346 hr_346 => ?_)
      subst hr_346
      refine zr_top (b := gH g ((k : Int)) 1) (qHir_c (by omega) (by omega) (by decide) (by decide)) ?_
      have hh_346 := iv_hi hI (h := ((k : Int))) (by omega) (by omega)
      refine lv_aload_n (pc := 349) hx hb dL_isRight_349 rfl (lv_at hl 0 rfl) ?_
      refine lv_iload (pc := 350) hx hb dL_isRight_350 (lv_at hl 5 rfl) ?_
      refine lv_iconst (pc := 352) (v := zI 2) hx hb dL_isRight_352 rfl ?_
      refine zr_vi (pc := 353) (As := [.int (zI ((k : Int))), .int (zI (2))]) (rest := [.int (zI (gH g ((k : Int)) 1))]) S (ct_X7_hired l D cI cT ad σ g hR hI tl tx rd rp ((k : Int)) 2 (by omega) (by decide)) (cwV 2 hts gL_isRight_X7_hired rfl rfl rfl (by decide +kernel) ⟨Nat.le_of_ble_eq_true rfl, Nat.le_of_ble_eq_true rfl⟩) zs0 hK ⟨hP, hY⟩ (zr_recv hK hY.1 rfl) rfl hl.1 rfl (Nat.le_of_ble_eq_true rfl) dL_isRight_353 ⟨Nat.le_of_ble_eq_true rfl, Nat.le_of_ble_eq_true rfl⟩ (fun r_353 hr_353 => ?_)
      subst hr_353
      refine zr_top (b := gH g ((k : Int)) 2) (qHir_c (by omega) (by omega) (by decide) (by decide)) ?_
      have hh_353 := iv_hi hI (h := ((k : Int))) (by omega) (by omega)
      refine zr_iadd (pc := 356) (d := (gH g ((k : Int)) 1) + (gH g ((k : Int)) 2)) hx hb dL_isRight_356 rfl ?_
      refine lv_iconst (pc := 357) (v := zI 1) hx hb dL_isRight_357 rfl ?_
      refine zr_isub (pc := 358) (d := ((gH g ((k : Int)) 1) + (gH g ((k : Int)) 2)) - 1) hx hb dL_isRight_358 rfl ?_
      refine lv_istore (pc := 359) (lv' := [(6, .int (zI (((gH g ((k : Int)) 1) + (gH g ((k : Int)) 2)) - 1))), (0, .ref (ad 120)), (1, .int (zI (g 0))), (2, .int (zI (awS g (k : Int)))), (3, .int (zI (sm (fun h => gH g h 3) k))), (4, .int (zI (0))), (5, .int (zI ((k : Int))))]) hx hb dL_isRight_359 hl (by decide) rfl (fun ls hl => ?_)
      refine lv_iload_n (pc := 361) hx hb dL_isRight_361 rfl (lv_at hl 4 rfl) ?_
      refine lv_aload_n (pc := 362) hx hb dL_isRight_362 rfl (lv_at hl 1 rfl) ?_
      refine lv_iload (pc := 363) hx hb dL_isRight_363 (lv_at hl 6 rfl) ?_
      refine lv_iconst (pc := 365) (v := zI 3) hx hb dL_isRight_365 rfl ?_
      refine zr_vi (pc := 366) (As := [.int (zI ((k : Int))), .int (zI (3))]) (rest := [.int (zI (sm (fun h => gH g h 3) k))]) S (ct_X7_hired l D cI cT ad σ g hR hI tl tx rd rp ((k : Int)) 3 (by omega) (by decide)) (cwV 2 hts gL_isRight_X7_hired rfl rfl rfl (by decide +kernel) ⟨Nat.le_of_ble_eq_true rfl, Nat.le_of_ble_eq_true rfl⟩) zs0 hK ⟨hP, hY⟩ (zr_recv hK hY.1 rfl) rfl hl.1 rfl (Nat.le_of_ble_eq_true rfl) dL_isRight_366 ⟨Nat.le_of_ble_eq_true rfl, Nat.le_of_ble_eq_true rfl⟩ (fun r_366 hr_366 => ?_)
      subst hr_366
      refine zr_top (b := gH g ((k : Int)) 3) (qHir_c (by omega) (by omega) (by decide) (by decide)) ?_
      have hh_366 := iv_hi hI (h := ((k : Int))) (by omega) (by omega)
      refine zr_iadd (pc := 369) (d := sm (fun h => gH g h 3) (k + 1)) hx hb dL_isRight_369 rfl ?_
      refine lv_istore_n (pc := 370) (lv' := [(3, .int (zI (sm (fun h => gH g h 3) (k + 1)))), (6, .int (zI (((gH g ((k : Int)) 1) + (gH g ((k : Int)) 2)) - 1))), (0, .ref (ad 120)), (1, .int (zI (g 0))), (2, .int (zI (awS g (k : Int)))), (4, .int (zI (0))), (5, .int (zI ((k : Int))))]) hx hb dL_isRight_370 rfl hl (by decide) rfl (fun ls hl => ?_)
      refine lv_iload_n (pc := 371) hx hb dL_isRight_371 rfl (lv_at hl 4 rfl) ?_
      refine lv_aload_n (pc := 372) hx hb dL_isRight_372 rfl (lv_at hl 2 rfl) ?_
      refine lv_iload (pc := 373) hx hb dL_isRight_373 (lv_at hl 6 rfl) ?_
      refine lv_iconst (pc := 375) (v := zI 1) hx hb dL_isRight_375 rfl ?_
      refine zr_vi (pc := 376) (As := [.int (zI ((k : Int))), .int (zI (1))]) (rest := [.int (zI (awS g (k : Int)))]) S (ct_X7_hired l D cI cT ad σ g hR hI tl tx rd rp ((k : Int)) 1 (by omega) (by decide)) (cwV 2 hts gL_isRight_X7_hired rfl rfl rfl (by decide +kernel) ⟨Nat.le_of_ble_eq_true rfl, Nat.le_of_ble_eq_true rfl⟩) zs0 hK ⟨hP, hY⟩ (zr_recv hK hY.1 rfl) rfl hl.1 rfl (Nat.le_of_ble_eq_true rfl) dL_isRight_376 ⟨Nat.le_of_ble_eq_true rfl, Nat.le_of_ble_eq_true rfl⟩ (fun r_376 hr_376 => ?_)
      subst hr_376
      refine zr_top (b := gH g ((k : Int)) 1) (qHir_c (by omega) (by omega) (by decide) (by decide)) ?_
      have hh_376 := iv_hi hI (h := ((k : Int))) (by omega) (by omega)
      refine lv_aload_n (pc := 379) hx hb dL_isRight_379 rfl (lv_at hl 2 rfl) ?_
      refine lv_iconst (pc := 380) (v := zI 3) hx hb dL_isRight_380 rfl ?_
      refine zr_vi (pc := 381) (As := [.int (zI (3))]) (rest := [.int (zI (gH g ((k : Int)) 1)), .int (zI (awS g (k : Int)))]) S (ct_X7_count l D cI cT ad σ g hR hI n m tl tx rd rp 3 (by decide)) (cwV 1 hts gL_isRight_X7_count rfl rfl rfl (by decide +kernel) ⟨Nat.le_of_ble_eq_true rfl, Nat.le_of_ble_eq_true rfl⟩) zs0 hK ⟨hP, hH1, hY⟩ (zr_recv hK hY.1 rfl) rfl hl.1 rfl (Nat.le_of_ble_eq_true rfl) dL_isRight_381 ⟨Nat.le_of_ble_eq_true rfl, Nat.le_of_ble_eq_true rfl⟩ (fun r_381 hr_381 => ?_)
      subst hr_381
      refine zr_top (b := g 3) (rfl) ?_
      refine zr_icmp_gt (pc := 384) (tgt := 409) hx hb dL_isRight_384 (by decide) (by omega) (by omega) (fun c_384 => ?_) (fun c_384 => ?_)
      · refine lv_iconst (pc := 409) (v := zI 0) hx hb dL_isRight_409 rfl ?_
        refine zr_ior (pc := 410) (d := awS g ((k : Int) + 1)) hx hb dL_isRight_410 ((zi_or0 _).trans (congrArg zI (awS_n (by omega)).symm)) ?_
        refine lv_istore_n (pc := 411) (lv' := [(2, .int (zI (awS g ((k : Int) + 1)))), (3, .int (zI (sm (fun h => gH g h 3) (k + 1)))), (6, .int (zI (((gH g ((k : Int)) 1) + (gH g ((k : Int)) 2)) - 1))), (0, .ref (ad 120)), (1, .int (zI (g 0))), (4, .int (zI (0))), (5, .int (zI ((k : Int))))]) hx hb dL_isRight_411 rfl hl (by decide) rfl (fun ls hl => ?_)
        refine lv_iconst (pc := 412) (v := zI 0) hx hb dL_isRight_412 rfl ?_
        refine lv_istore (pc := 413) (lv' := [(7, .int (zI (0))), (2, .int (zI (awS g ((k : Int) + 1)))), (3, .int (zI (sm (fun h => gH g h 3) (k + 1)))), (6, .int (zI (((gH g ((k : Int)) 1) + (gH g ((k : Int)) 2)) - 1))), (0, .ref (ad 120)), (1, .int (zI (g 0))), (4, .int (zI (0))), (5, .int (zI ((k : Int))))]) hx hb dL_isRight_413 hl (by decide) rfl (fun ls hl => ?_)
        refine zr_loop1 (fun (i : Nat) => ((i : Int) ≤ (k : Int))) (fun (i : Nat) => k - i) (fun (i : Nat) => [(0, .ref (ad 120)), (1, .int (zI (g 0))), (2, .int (zI (awS g ((k : Int) + 1)))), (3, .int (zI (sm (fun h => gH g h 3) (k + 1)))), (4, .int (zI (0))), (5, .int (zI ((k : Int)))), (6, .int (zI (gH g (k : Int) 1 + gH g (k : Int) 2 - 1))), (7, .int (zI ((i : Int))))]) ?_ (0) (by omega) (lv_sub hl [4, 5, 1, 2, 6, 7, 3, 0] rfl)
        intro i hinv ih_415 ls hl
        obtain h_i := hinv
        refine lv_iload (pc := 415) hx hb dL_isRight_415 (lv_at hl 7 rfl) ?_
        refine lv_iload (pc := 417) hx hb dL_isRight_417 (lv_at hl 5 rfl) ?_
        refine zr_icmp_ge (pc := 419) (tgt := 484) hx hb dL_isRight_419 (by decide) (by omega) (by omega) (fun c_419 => ?_) (fun c_419 => ?_)
        · refine zr_iinc (pc := 484) (d := ((k : Int)) + 1) (lv' := [(5, .int (zI (((k : Int)) + 1))), (0, .ref (ad 120)), (1, .int (zI (g 0))), (2, .int (zI (awS g ((k : Int) + 1)))), (3, .int (zI (sm (fun h => gH g h 3) (k + 1)))), (4, .int (zI (0))), (6, .int (zI (gH g (k : Int) 1 + gH g (k : Int) 2 - 1))), (7, .int (zI ((i : Int))))]) hx hb dL_isRight_484 hl (k := 5) rfl rfl (by decide) rfl (fun ls hl => ?_)
          refine lv_goto (pc := 487) (tgt := 332) hx hb dL_isRight_487 (by decide) ?_
          exact ih_332 (k + 1) (by omega) (by omega) ls (lv_sub hl [1, 2, 3, 4, 5, 0] rfl)
        · refine lv_aload_n (pc := 422) hx hb dL_isRight_422 rfl (lv_at hl 0 rfl) ?_
          refine lv_iload (pc := 423) hx hb dL_isRight_423 (lv_at hl 7 rfl) ?_
          refine lv_iconst (pc := 425) (v := zI 0) hx hb dL_isRight_425 rfl ?_
          refine zr_vi (pc := 426) (As := [.int (zI ((i : Int))), .int (zI (0))]) (rest := []) S (ct_X7_hired l D cI cT ad σ g hR hI tl tx rd rp ((i : Int)) 0 (by omega) (by decide)) (cwV 2 hts gL_isRight_X7_hired rfl rfl rfl (by decide +kernel) ⟨Nat.le_of_ble_eq_true rfl, Nat.le_of_ble_eq_true rfl⟩) zs0 hK ⟨hP, hY⟩ (zr_recv hK hY.1 rfl) rfl hl.1 rfl (Nat.le_of_ble_eq_true rfl) dL_isRight_426 ⟨Nat.le_of_ble_eq_true rfl, Nat.le_of_ble_eq_true rfl⟩ (fun r_426 hr_426 => ?_)
          subst hr_426
          refine zr_top (b := gH g ((i : Int)) 0) (qHir_c (by omega) (by omega) (by decide) (by decide)) ?_
          have hh_426 := iv_hi hI (h := ((i : Int))) (by omega) (by omega)
          refine lv_aload_n (pc := 429) hx hb dL_isRight_429 rfl (lv_at hl 0 rfl) ?_
          refine lv_iload (pc := 430) hx hb dL_isRight_430 (lv_at hl 5 rfl) ?_
          refine lv_iconst (pc := 432) (v := zI 0) hx hb dL_isRight_432 rfl ?_
          refine zr_vi (pc := 433) (As := [.int (zI ((k : Int))), .int (zI (0))]) (rest := [.int (zI (gH g ((i : Int)) 0))]) S (ct_X7_hired l D cI cT ad σ g hR hI tl tx rd rp ((k : Int)) 0 (by omega) (by decide)) (cwV 2 hts gL_isRight_X7_hired rfl rfl rfl (by decide +kernel) ⟨Nat.le_of_ble_eq_true rfl, Nat.le_of_ble_eq_true rfl⟩) zs0 hK ⟨hP, hY⟩ (zr_recv hK hY.1 rfl) rfl hl.1 rfl (Nat.le_of_ble_eq_true rfl) dL_isRight_433 ⟨Nat.le_of_ble_eq_true rfl, Nat.le_of_ble_eq_true rfl⟩ (fun r_433 hr_433 => ?_)
          subst hr_433
          refine zr_top (b := gH g ((k : Int)) 0) (qHir_c (by omega) (by omega) (by decide) (by decide)) ?_
          have hh_433 := iv_hi hI (h := ((k : Int))) (by omega) (by omega)
          refine zr_icmp_ne (pc := 436) (tgt := 478) hx hb dL_isRight_436 (by decide) (by omega) (by omega) (fun c_436 => ?_) (fun c_436 => ?_)
          · refine zr_iinc (pc := 478) (d := ((i : Int)) + 1) (lv' := [(7, .int (zI (((i : Int)) + 1))), (0, .ref (ad 120)), (1, .int (zI (g 0))), (2, .int (zI (awS g ((k : Int) + 1)))), (3, .int (zI (sm (fun h => gH g h 3) (k + 1)))), (4, .int (zI (0))), (5, .int (zI ((k : Int)))), (6, .int (zI (gH g (k : Int) 1 + gH g (k : Int) 2 - 1)))]) hx hb dL_isRight_478 hl (k := 7) rfl rfl (by decide) rfl (fun ls hl => ?_)
            refine lv_goto (pc := 481) (tgt := 415) hx hb dL_isRight_481 (by decide) ?_
            exact ih_415 (i + 1) (by omega) (by omega) ls (lv_sub hl [1, 2, 3, 4, 5, 6, 7, 0] rfl)
          · refine lv_aload_n (pc := 439) hx hb dL_isRight_439 rfl (lv_at hl 0 rfl) ?_
            refine lv_iload (pc := 440) hx hb dL_isRight_440 (lv_at hl 7 rfl) ?_
            refine lv_iconst (pc := 442) (v := zI 1) hx hb dL_isRight_442 rfl ?_
            refine zr_vi (pc := 443) (As := [.int (zI ((i : Int))), .int (zI (1))]) (rest := []) S (ct_X7_hired l D cI cT ad σ g hR hI tl tx rd rp ((i : Int)) 1 (by omega) (by decide)) (cwV 2 hts gL_isRight_X7_hired rfl rfl rfl (by decide +kernel) ⟨Nat.le_of_ble_eq_true rfl, Nat.le_of_ble_eq_true rfl⟩) zs0 hK ⟨hP, hY⟩ (zr_recv hK hY.1 rfl) rfl hl.1 rfl (Nat.le_of_ble_eq_true rfl) dL_isRight_443 ⟨Nat.le_of_ble_eq_true rfl, Nat.le_of_ble_eq_true rfl⟩ (fun r_443 hr_443 => ?_)
            subst hr_443
            refine zr_top (b := gH g ((i : Int)) 1) (qHir_c (by omega) (by omega) (by decide) (by decide)) ?_
            have hh_443 := iv_hi hI (h := ((i : Int))) (by omega) (by omega)
            refine lv_iload (pc := 446) hx hb dL_isRight_446 (lv_at hl 6 rfl) ?_
            refine zr_icmp_gt (pc := 448) (tgt := 478) hx hb dL_isRight_448 (by decide) (by omega) (by omega) (fun c_448 => ?_) (fun c_448 => ?_)
            · refine zr_iinc (pc := 478) (d := ((i : Int)) + 1) (lv' := [(7, .int (zI (((i : Int)) + 1))), (0, .ref (ad 120)), (1, .int (zI (g 0))), (2, .int (zI (awS g ((k : Int) + 1)))), (3, .int (zI (sm (fun h => gH g h 3) (k + 1)))), (4, .int (zI (0))), (5, .int (zI ((k : Int)))), (6, .int (zI (gH g (k : Int) 1 + gH g (k : Int) 2 - 1)))]) hx hb dL_isRight_478 hl (k := 7) rfl rfl (by decide) rfl (fun ls hl => ?_)
              refine lv_goto (pc := 481) (tgt := 415) hx hb dL_isRight_481 (by decide) ?_
              exact ih_415 (i + 1) (by omega) (by omega) ls (lv_sub hl [1, 2, 3, 4, 5, 6, 7, 0] rfl)
            · refine lv_aload_n (pc := 451) hx hb dL_isRight_451 rfl (lv_at hl 0 rfl) ?_
              refine lv_iload (pc := 452) hx hb dL_isRight_452 (lv_at hl 5 rfl) ?_
              refine lv_iconst (pc := 454) (v := zI 1) hx hb dL_isRight_454 rfl ?_
              refine zr_vi (pc := 455) (As := [.int (zI ((k : Int))), .int (zI (1))]) (rest := []) S (ct_X7_hired l D cI cT ad σ g hR hI tl tx rd rp ((k : Int)) 1 (by omega) (by decide)) (cwV 2 hts gL_isRight_X7_hired rfl rfl rfl (by decide +kernel) ⟨Nat.le_of_ble_eq_true rfl, Nat.le_of_ble_eq_true rfl⟩) zs0 hK ⟨hP, hY⟩ (zr_recv hK hY.1 rfl) rfl hl.1 rfl (Nat.le_of_ble_eq_true rfl) dL_isRight_455 ⟨Nat.le_of_ble_eq_true rfl, Nat.le_of_ble_eq_true rfl⟩ (fun r_455 hr_455 => ?_)
              subst hr_455
              refine zr_top (b := gH g ((k : Int)) 1) (qHir_c (by omega) (by omega) (by decide) (by decide)) ?_
              have hh_455 := iv_hi hI (h := ((k : Int))) (by omega) (by omega)
              refine lv_aload_n (pc := 458) hx hb dL_isRight_458 rfl (lv_at hl 0 rfl) ?_
              refine lv_iload (pc := 459) hx hb dL_isRight_459 (lv_at hl 7 rfl) ?_
              refine lv_iconst (pc := 461) (v := zI 1) hx hb dL_isRight_461 rfl ?_
              refine zr_vi (pc := 462) (As := [.int (zI ((i : Int))), .int (zI (1))]) (rest := [.int (zI (gH g ((k : Int)) 1))]) S (ct_X7_hired l D cI cT ad σ g hR hI tl tx rd rp ((i : Int)) 1 (by omega) (by decide)) (cwV 2 hts gL_isRight_X7_hired rfl rfl rfl (by decide +kernel) ⟨Nat.le_of_ble_eq_true rfl, Nat.le_of_ble_eq_true rfl⟩) zs0 hK ⟨hP, hY⟩ (zr_recv hK hY.1 rfl) rfl hl.1 rfl (Nat.le_of_ble_eq_true rfl) dL_isRight_462 ⟨Nat.le_of_ble_eq_true rfl, Nat.le_of_ble_eq_true rfl⟩ (fun r_462 hr_462 => ?_)
              subst hr_462
              refine zr_top (b := gH g ((i : Int)) 1) (qHir_c (by omega) (by omega) (by decide) (by decide)) ?_
              have hh_462 := iv_hi hI (h := ((i : Int))) (by omega) (by omega)
              refine lv_aload_n (pc := 465) hx hb dL_isRight_465 rfl (lv_at hl 0 rfl) ?_
              refine lv_iload (pc := 466) hx hb dL_isRight_466 (lv_at hl 7 rfl) ?_
              refine lv_iconst (pc := 468) (v := zI 2) hx hb dL_isRight_468 rfl ?_
              refine zr_vi (pc := 469) (As := [.int (zI ((i : Int))), .int (zI (2))]) (rest := [.int (zI (gH g ((i : Int)) 1)), .int (zI (gH g ((k : Int)) 1))]) S (ct_X7_hired l D cI cT ad σ g hR hI tl tx rd rp ((i : Int)) 2 (by omega) (by decide)) (cwV 2 hts gL_isRight_X7_hired rfl rfl rfl (by decide +kernel) ⟨Nat.le_of_ble_eq_true rfl, Nat.le_of_ble_eq_true rfl⟩) zs0 hK ⟨hP, hY⟩ (zr_recv hK hY.1 rfl) rfl hl.1 rfl (Nat.le_of_ble_eq_true rfl) dL_isRight_469 ⟨Nat.le_of_ble_eq_true rfl, Nat.le_of_ble_eq_true rfl⟩ (fun r_469 hr_469 => ?_)
              subst hr_469
              refine zr_top (b := gH g ((i : Int)) 2) (qHir_c (by omega) (by omega) (by decide) (by decide)) ?_
              have hh_469 := iv_hi hI (h := ((i : Int))) (by omega) (by omega)
              refine zr_iadd (pc := 472) (d := (gH g ((i : Int)) 1) + (gH g ((i : Int)) 2)) hx hb dL_isRight_472 rfl ?_
              refine zr_icmp_ge (pc := 473) (tgt := 478) hx hb dL_isRight_473 (by decide) (by omega) (by omega) (fun c_473 => ?_) (fun c_473 => ?_)
              · refine zr_iinc (pc := 478) (d := ((i : Int)) + 1) (lv' := [(7, .int (zI (((i : Int)) + 1))), (0, .ref (ad 120)), (1, .int (zI (g 0))), (2, .int (zI (awS g ((k : Int) + 1)))), (3, .int (zI (sm (fun h => gH g h 3) (k + 1)))), (4, .int (zI (0))), (5, .int (zI ((k : Int)))), (6, .int (zI (gH g (k : Int) 1 + gH g (k : Int) 2 - 1)))]) hx hb dL_isRight_478 hl (k := 7) rfl rfl (by decide) rfl (fun ls hl => ?_)
                refine lv_goto (pc := 481) (tgt := 415) hx hb dL_isRight_481 (by decide) ?_
                exact ih_415 (i + 1) (by omega) (by omega) ls (lv_sub hl [1, 2, 3, 4, 5, 6, 7, 0] rfl)
              · exact (hN (i : Int) (k : Int) (by omega) (by omega) (by omega) c_436 (by omega) (by omega)).elim
      · refine lv_aload_n (pc := 387) hx hb dL_isRight_387 rfl (lv_at hl 2 rfl) ?_
        refine lv_iconst (pc := 388) (v := zI 3) hx hb dL_isRight_388 rfl ?_
        refine zr_vi (pc := 389) (As := [.int (zI (3))]) (rest := [.int (zI (awS g (k : Int)))]) S (ct_X7_count l D cI cT ad σ g hR hI n m tl tx rd rp 3 (by decide)) (cwV 1 hts gL_isRight_X7_count rfl rfl rfl (by decide +kernel) ⟨Nat.le_of_ble_eq_true rfl, Nat.le_of_ble_eq_true rfl⟩) zs0 hK ⟨hP, hH1, hY⟩ (zr_recv hK hY.1 rfl) rfl hl.1 rfl (Nat.le_of_ble_eq_true rfl) dL_isRight_389 ⟨Nat.le_of_ble_eq_true rfl, Nat.le_of_ble_eq_true rfl⟩ (fun r_389 hr_389 => ?_)
        subst hr_389
        refine zr_top (b := g 3) (rfl) ?_
        refine lv_iload (pc := 392) hx hb dL_isRight_392 (lv_at hl 1 rfl) ?_
        refine zr_icmp_gt (pc := 394) (tgt := 409) hx hb dL_isRight_394 (by decide) (by omega) (by omega) (fun c_394 => ?_) (fun c_394 => ?_)
        · refine lv_iconst (pc := 409) (v := zI 0) hx hb dL_isRight_409 rfl ?_
          refine zr_ior (pc := 410) (d := awS g ((k : Int) + 1)) hx hb dL_isRight_410 ((zi_or0 _).trans (congrArg zI (awS_n (by omega)).symm)) ?_
          refine lv_istore_n (pc := 411) (lv' := [(2, .int (zI (awS g ((k : Int) + 1)))), (3, .int (zI (sm (fun h => gH g h 3) (k + 1)))), (6, .int (zI (((gH g ((k : Int)) 1) + (gH g ((k : Int)) 2)) - 1))), (0, .ref (ad 120)), (1, .int (zI (g 0))), (4, .int (zI (0))), (5, .int (zI ((k : Int))))]) hx hb dL_isRight_411 rfl hl (by decide) rfl (fun ls hl => ?_)
          refine lv_iconst (pc := 412) (v := zI 0) hx hb dL_isRight_412 rfl ?_
          refine lv_istore (pc := 413) (lv' := [(7, .int (zI (0))), (2, .int (zI (awS g ((k : Int) + 1)))), (3, .int (zI (sm (fun h => gH g h 3) (k + 1)))), (6, .int (zI (((gH g ((k : Int)) 1) + (gH g ((k : Int)) 2)) - 1))), (0, .ref (ad 120)), (1, .int (zI (g 0))), (4, .int (zI (0))), (5, .int (zI ((k : Int))))]) hx hb dL_isRight_413 hl (by decide) rfl (fun ls hl => ?_)
          refine zr_loop1 (fun (i : Nat) => ((i : Int) ≤ (k : Int))) (fun (i : Nat) => k - i) (fun (i : Nat) => [(0, .ref (ad 120)), (1, .int (zI (g 0))), (2, .int (zI (awS g ((k : Int) + 1)))), (3, .int (zI (sm (fun h => gH g h 3) (k + 1)))), (4, .int (zI (0))), (5, .int (zI ((k : Int)))), (6, .int (zI (gH g (k : Int) 1 + gH g (k : Int) 2 - 1))), (7, .int (zI ((i : Int))))]) ?_ (0) (by omega) (lv_sub hl [4, 5, 1, 2, 6, 7, 3, 0] rfl)
          intro i hinv ih_415 ls hl
          obtain h_i := hinv
          refine lv_iload (pc := 415) hx hb dL_isRight_415 (lv_at hl 7 rfl) ?_
          refine lv_iload (pc := 417) hx hb dL_isRight_417 (lv_at hl 5 rfl) ?_
          refine zr_icmp_ge (pc := 419) (tgt := 484) hx hb dL_isRight_419 (by decide) (by omega) (by omega) (fun c_419 => ?_) (fun c_419 => ?_)
          · refine zr_iinc (pc := 484) (d := ((k : Int)) + 1) (lv' := [(5, .int (zI (((k : Int)) + 1))), (0, .ref (ad 120)), (1, .int (zI (g 0))), (2, .int (zI (awS g ((k : Int) + 1)))), (3, .int (zI (sm (fun h => gH g h 3) (k + 1)))), (4, .int (zI (0))), (6, .int (zI (gH g (k : Int) 1 + gH g (k : Int) 2 - 1))), (7, .int (zI ((i : Int))))]) hx hb dL_isRight_484 hl (k := 5) rfl rfl (by decide) rfl (fun ls hl => ?_)
            refine lv_goto (pc := 487) (tgt := 332) hx hb dL_isRight_487 (by decide) ?_
            exact ih_332 (k + 1) (by omega) (by omega) ls (lv_sub hl [1, 2, 3, 4, 5, 0] rfl)
          · refine lv_aload_n (pc := 422) hx hb dL_isRight_422 rfl (lv_at hl 0 rfl) ?_
            refine lv_iload (pc := 423) hx hb dL_isRight_423 (lv_at hl 7 rfl) ?_
            refine lv_iconst (pc := 425) (v := zI 0) hx hb dL_isRight_425 rfl ?_
            refine zr_vi (pc := 426) (As := [.int (zI ((i : Int))), .int (zI (0))]) (rest := []) S (ct_X7_hired l D cI cT ad σ g hR hI tl tx rd rp ((i : Int)) 0 (by omega) (by decide)) (cwV 2 hts gL_isRight_X7_hired rfl rfl rfl (by decide +kernel) ⟨Nat.le_of_ble_eq_true rfl, Nat.le_of_ble_eq_true rfl⟩) zs0 hK ⟨hP, hY⟩ (zr_recv hK hY.1 rfl) rfl hl.1 rfl (Nat.le_of_ble_eq_true rfl) dL_isRight_426 ⟨Nat.le_of_ble_eq_true rfl, Nat.le_of_ble_eq_true rfl⟩ (fun r_426 hr_426 => ?_)
            subst hr_426
            refine zr_top (b := gH g ((i : Int)) 0) (qHir_c (by omega) (by omega) (by decide) (by decide)) ?_
            have hh_426 := iv_hi hI (h := ((i : Int))) (by omega) (by omega)
            refine lv_aload_n (pc := 429) hx hb dL_isRight_429 rfl (lv_at hl 0 rfl) ?_
            refine lv_iload (pc := 430) hx hb dL_isRight_430 (lv_at hl 5 rfl) ?_
            refine lv_iconst (pc := 432) (v := zI 0) hx hb dL_isRight_432 rfl ?_
            refine zr_vi (pc := 433) (As := [.int (zI ((k : Int))), .int (zI (0))]) (rest := [.int (zI (gH g ((i : Int)) 0))]) S (ct_X7_hired l D cI cT ad σ g hR hI tl tx rd rp ((k : Int)) 0 (by omega) (by decide)) (cwV 2 hts gL_isRight_X7_hired rfl rfl rfl (by decide +kernel) ⟨Nat.le_of_ble_eq_true rfl, Nat.le_of_ble_eq_true rfl⟩) zs0 hK ⟨hP, hY⟩ (zr_recv hK hY.1 rfl) rfl hl.1 rfl (Nat.le_of_ble_eq_true rfl) dL_isRight_433 ⟨Nat.le_of_ble_eq_true rfl, Nat.le_of_ble_eq_true rfl⟩ (fun r_433 hr_433 => ?_)
            subst hr_433
            refine zr_top (b := gH g ((k : Int)) 0) (qHir_c (by omega) (by omega) (by decide) (by decide)) ?_
            have hh_433 := iv_hi hI (h := ((k : Int))) (by omega) (by omega)
            refine zr_icmp_ne (pc := 436) (tgt := 478) hx hb dL_isRight_436 (by decide) (by omega) (by omega) (fun c_436 => ?_) (fun c_436 => ?_)
            · refine zr_iinc (pc := 478) (d := ((i : Int)) + 1) (lv' := [(7, .int (zI (((i : Int)) + 1))), (0, .ref (ad 120)), (1, .int (zI (g 0))), (2, .int (zI (awS g ((k : Int) + 1)))), (3, .int (zI (sm (fun h => gH g h 3) (k + 1)))), (4, .int (zI (0))), (5, .int (zI ((k : Int)))), (6, .int (zI (gH g (k : Int) 1 + gH g (k : Int) 2 - 1)))]) hx hb dL_isRight_478 hl (k := 7) rfl rfl (by decide) rfl (fun ls hl => ?_)
              refine lv_goto (pc := 481) (tgt := 415) hx hb dL_isRight_481 (by decide) ?_
              exact ih_415 (i + 1) (by omega) (by omega) ls (lv_sub hl [1, 2, 3, 4, 5, 6, 7, 0] rfl)
            · refine lv_aload_n (pc := 439) hx hb dL_isRight_439 rfl (lv_at hl 0 rfl) ?_
              refine lv_iload (pc := 440) hx hb dL_isRight_440 (lv_at hl 7 rfl) ?_
              refine lv_iconst (pc := 442) (v := zI 1) hx hb dL_isRight_442 rfl ?_
              refine zr_vi (pc := 443) (As := [.int (zI ((i : Int))), .int (zI (1))]) (rest := []) S (ct_X7_hired l D cI cT ad σ g hR hI tl tx rd rp ((i : Int)) 1 (by omega) (by decide)) (cwV 2 hts gL_isRight_X7_hired rfl rfl rfl (by decide +kernel) ⟨Nat.le_of_ble_eq_true rfl, Nat.le_of_ble_eq_true rfl⟩) zs0 hK ⟨hP, hY⟩ (zr_recv hK hY.1 rfl) rfl hl.1 rfl (Nat.le_of_ble_eq_true rfl) dL_isRight_443 ⟨Nat.le_of_ble_eq_true rfl, Nat.le_of_ble_eq_true rfl⟩ (fun r_443 hr_443 => ?_)
              subst hr_443
              refine zr_top (b := gH g ((i : Int)) 1) (qHir_c (by omega) (by omega) (by decide) (by decide)) ?_
              have hh_443 := iv_hi hI (h := ((i : Int))) (by omega) (by omega)
              refine lv_iload (pc := 446) hx hb dL_isRight_446 (lv_at hl 6 rfl) ?_
              refine zr_icmp_gt (pc := 448) (tgt := 478) hx hb dL_isRight_448 (by decide) (by omega) (by omega) (fun c_448 => ?_) (fun c_448 => ?_)
              · refine zr_iinc (pc := 478) (d := ((i : Int)) + 1) (lv' := [(7, .int (zI (((i : Int)) + 1))), (0, .ref (ad 120)), (1, .int (zI (g 0))), (2, .int (zI (awS g ((k : Int) + 1)))), (3, .int (zI (sm (fun h => gH g h 3) (k + 1)))), (4, .int (zI (0))), (5, .int (zI ((k : Int)))), (6, .int (zI (gH g (k : Int) 1 + gH g (k : Int) 2 - 1)))]) hx hb dL_isRight_478 hl (k := 7) rfl rfl (by decide) rfl (fun ls hl => ?_)
                refine lv_goto (pc := 481) (tgt := 415) hx hb dL_isRight_481 (by decide) ?_
                exact ih_415 (i + 1) (by omega) (by omega) ls (lv_sub hl [1, 2, 3, 4, 5, 6, 7, 0] rfl)
              · refine lv_aload_n (pc := 451) hx hb dL_isRight_451 rfl (lv_at hl 0 rfl) ?_
                refine lv_iload (pc := 452) hx hb dL_isRight_452 (lv_at hl 5 rfl) ?_
                refine lv_iconst (pc := 454) (v := zI 1) hx hb dL_isRight_454 rfl ?_
                refine zr_vi (pc := 455) (As := [.int (zI ((k : Int))), .int (zI (1))]) (rest := []) S (ct_X7_hired l D cI cT ad σ g hR hI tl tx rd rp ((k : Int)) 1 (by omega) (by decide)) (cwV 2 hts gL_isRight_X7_hired rfl rfl rfl (by decide +kernel) ⟨Nat.le_of_ble_eq_true rfl, Nat.le_of_ble_eq_true rfl⟩) zs0 hK ⟨hP, hY⟩ (zr_recv hK hY.1 rfl) rfl hl.1 rfl (Nat.le_of_ble_eq_true rfl) dL_isRight_455 ⟨Nat.le_of_ble_eq_true rfl, Nat.le_of_ble_eq_true rfl⟩ (fun r_455 hr_455 => ?_)
                subst hr_455
                refine zr_top (b := gH g ((k : Int)) 1) (qHir_c (by omega) (by omega) (by decide) (by decide)) ?_
                have hh_455 := iv_hi hI (h := ((k : Int))) (by omega) (by omega)
                refine lv_aload_n (pc := 458) hx hb dL_isRight_458 rfl (lv_at hl 0 rfl) ?_
                refine lv_iload (pc := 459) hx hb dL_isRight_459 (lv_at hl 7 rfl) ?_
                refine lv_iconst (pc := 461) (v := zI 1) hx hb dL_isRight_461 rfl ?_
                refine zr_vi (pc := 462) (As := [.int (zI ((i : Int))), .int (zI (1))]) (rest := [.int (zI (gH g ((k : Int)) 1))]) S (ct_X7_hired l D cI cT ad σ g hR hI tl tx rd rp ((i : Int)) 1 (by omega) (by decide)) (cwV 2 hts gL_isRight_X7_hired rfl rfl rfl (by decide +kernel) ⟨Nat.le_of_ble_eq_true rfl, Nat.le_of_ble_eq_true rfl⟩) zs0 hK ⟨hP, hY⟩ (zr_recv hK hY.1 rfl) rfl hl.1 rfl (Nat.le_of_ble_eq_true rfl) dL_isRight_462 ⟨Nat.le_of_ble_eq_true rfl, Nat.le_of_ble_eq_true rfl⟩ (fun r_462 hr_462 => ?_)
                subst hr_462
                refine zr_top (b := gH g ((i : Int)) 1) (qHir_c (by omega) (by omega) (by decide) (by decide)) ?_
                have hh_462 := iv_hi hI (h := ((i : Int))) (by omega) (by omega)
                refine lv_aload_n (pc := 465) hx hb dL_isRight_465 rfl (lv_at hl 0 rfl) ?_
                refine lv_iload (pc := 466) hx hb dL_isRight_466 (lv_at hl 7 rfl) ?_
                refine lv_iconst (pc := 468) (v := zI 2) hx hb dL_isRight_468 rfl ?_
                refine zr_vi (pc := 469) (As := [.int (zI ((i : Int))), .int (zI (2))]) (rest := [.int (zI (gH g ((i : Int)) 1)), .int (zI (gH g ((k : Int)) 1))]) S (ct_X7_hired l D cI cT ad σ g hR hI tl tx rd rp ((i : Int)) 2 (by omega) (by decide)) (cwV 2 hts gL_isRight_X7_hired rfl rfl rfl (by decide +kernel) ⟨Nat.le_of_ble_eq_true rfl, Nat.le_of_ble_eq_true rfl⟩) zs0 hK ⟨hP, hY⟩ (zr_recv hK hY.1 rfl) rfl hl.1 rfl (Nat.le_of_ble_eq_true rfl) dL_isRight_469 ⟨Nat.le_of_ble_eq_true rfl, Nat.le_of_ble_eq_true rfl⟩ (fun r_469 hr_469 => ?_)
                subst hr_469
                refine zr_top (b := gH g ((i : Int)) 2) (qHir_c (by omega) (by omega) (by decide) (by decide)) ?_
                have hh_469 := iv_hi hI (h := ((i : Int))) (by omega) (by omega)
                refine zr_iadd (pc := 472) (d := (gH g ((i : Int)) 1) + (gH g ((i : Int)) 2)) hx hb dL_isRight_472 rfl ?_
                refine zr_icmp_ge (pc := 473) (tgt := 478) hx hb dL_isRight_473 (by decide) (by omega) (by omega) (fun c_473 => ?_) (fun c_473 => ?_)
                · refine zr_iinc (pc := 478) (d := ((i : Int)) + 1) (lv' := [(7, .int (zI (((i : Int)) + 1))), (0, .ref (ad 120)), (1, .int (zI (g 0))), (2, .int (zI (awS g ((k : Int) + 1)))), (3, .int (zI (sm (fun h => gH g h 3) (k + 1)))), (4, .int (zI (0))), (5, .int (zI ((k : Int)))), (6, .int (zI (gH g (k : Int) 1 + gH g (k : Int) 2 - 1)))]) hx hb dL_isRight_478 hl (k := 7) rfl rfl (by decide) rfl (fun ls hl => ?_)
                  refine lv_goto (pc := 481) (tgt := 415) hx hb dL_isRight_481 (by decide) ?_
                  exact ih_415 (i + 1) (by omega) (by omega) ls (lv_sub hl [1, 2, 3, 4, 5, 6, 7, 0] rfl)
                · exact (hN (i : Int) (k : Int) (by omega) (by omega) (by omega) c_436 (by omega) (by omega)).elim
        · refine lv_iconst (pc := 397) (v := zI 1) hx hb dL_isRight_397 rfl ?_
          refine lv_aload_n (pc := 398) hx hb dL_isRight_398 rfl (lv_at hl 2 rfl) ?_
          refine lv_iload (pc := 399) hx hb dL_isRight_399 (lv_at hl 6 rfl) ?_
          refine lv_iconst (pc := 401) (v := zI 0) hx hb dL_isRight_401 rfl ?_
          refine zr_vi (pc := 402) (As := [.int (zI ((k : Int))), .int (zI (0))]) (rest := [.int (zI (1)), .int (zI (awS g (k : Int)))]) S (ct_X7_hired l D cI cT ad σ g hR hI tl tx rd rp ((k : Int)) 0 (by omega) (by decide)) (cwV 2 hts gL_isRight_X7_hired rfl rfl rfl (by decide +kernel) ⟨Nat.le_of_ble_eq_true rfl, Nat.le_of_ble_eq_true rfl⟩) zs0 hK ⟨hP, hY⟩ (zr_recv hK hY.1 rfl) rfl hl.1 rfl (Nat.le_of_ble_eq_true rfl) dL_isRight_402 ⟨Nat.le_of_ble_eq_true rfl, Nat.le_of_ble_eq_true rfl⟩ (fun r_402 hr_402 => ?_)
          subst hr_402
          refine zr_top (b := gH g ((k : Int)) 0) (qHir_c (by omega) (by omega) (by decide) (by decide)) ?_
          have hh_402 := iv_hi hI (h := ((k : Int))) (by omega) (by omega)
          refine zr_ishl (pc := 405) (d := pw (gH g (k : Int) 0)) hx hb dL_isRight_405 (zi_pw (by omega) (by omega)) ?_
          refine lv_goto (pc := 406) (tgt := 410) hx hb dL_isRight_406 (by decide) ?_
          refine zr_ior (pc := 410) (d := awS g ((k : Int) + 1)) hx hb dL_isRight_410 (awS_y hI (by omega) (by omega) c_384 c_394) ?_
          refine lv_istore_n (pc := 411) (lv' := [(2, .int (zI (awS g ((k : Int) + 1)))), (3, .int (zI (sm (fun h => gH g h 3) (k + 1)))), (6, .int (zI (((gH g ((k : Int)) 1) + (gH g ((k : Int)) 2)) - 1))), (0, .ref (ad 120)), (1, .int (zI (g 0))), (4, .int (zI (0))), (5, .int (zI ((k : Int))))]) hx hb dL_isRight_411 rfl hl (by decide) rfl (fun ls hl => ?_)
          refine lv_iconst (pc := 412) (v := zI 0) hx hb dL_isRight_412 rfl ?_
          refine lv_istore (pc := 413) (lv' := [(7, .int (zI (0))), (2, .int (zI (awS g ((k : Int) + 1)))), (3, .int (zI (sm (fun h => gH g h 3) (k + 1)))), (6, .int (zI (((gH g ((k : Int)) 1) + (gH g ((k : Int)) 2)) - 1))), (0, .ref (ad 120)), (1, .int (zI (g 0))), (4, .int (zI (0))), (5, .int (zI ((k : Int))))]) hx hb dL_isRight_413 hl (by decide) rfl (fun ls hl => ?_)
          refine zr_loop1 (fun (i : Nat) => ((i : Int) ≤ (k : Int))) (fun (i : Nat) => k - i) (fun (i : Nat) => [(0, .ref (ad 120)), (1, .int (zI (g 0))), (2, .int (zI (awS g ((k : Int) + 1)))), (3, .int (zI (sm (fun h => gH g h 3) (k + 1)))), (4, .int (zI (0))), (5, .int (zI ((k : Int)))), (6, .int (zI (gH g (k : Int) 1 + gH g (k : Int) 2 - 1))), (7, .int (zI ((i : Int))))]) ?_ (0) (by omega) (lv_sub hl [4, 5, 1, 2, 6, 7, 3, 0] rfl)
          intro i hinv ih_415 ls hl
          obtain h_i := hinv
          refine lv_iload (pc := 415) hx hb dL_isRight_415 (lv_at hl 7 rfl) ?_
          refine lv_iload (pc := 417) hx hb dL_isRight_417 (lv_at hl 5 rfl) ?_
          refine zr_icmp_ge (pc := 419) (tgt := 484) hx hb dL_isRight_419 (by decide) (by omega) (by omega) (fun c_419 => ?_) (fun c_419 => ?_)
          · refine zr_iinc (pc := 484) (d := ((k : Int)) + 1) (lv' := [(5, .int (zI (((k : Int)) + 1))), (0, .ref (ad 120)), (1, .int (zI (g 0))), (2, .int (zI (awS g ((k : Int) + 1)))), (3, .int (zI (sm (fun h => gH g h 3) (k + 1)))), (4, .int (zI (0))), (6, .int (zI (gH g (k : Int) 1 + gH g (k : Int) 2 - 1))), (7, .int (zI ((i : Int))))]) hx hb dL_isRight_484 hl (k := 5) rfl rfl (by decide) rfl (fun ls hl => ?_)
            refine lv_goto (pc := 487) (tgt := 332) hx hb dL_isRight_487 (by decide) ?_
            exact ih_332 (k + 1) (by omega) (by omega) ls (lv_sub hl [1, 2, 3, 4, 5, 0] rfl)
          · refine lv_aload_n (pc := 422) hx hb dL_isRight_422 rfl (lv_at hl 0 rfl) ?_
            refine lv_iload (pc := 423) hx hb dL_isRight_423 (lv_at hl 7 rfl) ?_
            refine lv_iconst (pc := 425) (v := zI 0) hx hb dL_isRight_425 rfl ?_
            refine zr_vi (pc := 426) (As := [.int (zI ((i : Int))), .int (zI (0))]) (rest := []) S (ct_X7_hired l D cI cT ad σ g hR hI tl tx rd rp ((i : Int)) 0 (by omega) (by decide)) (cwV 2 hts gL_isRight_X7_hired rfl rfl rfl (by decide +kernel) ⟨Nat.le_of_ble_eq_true rfl, Nat.le_of_ble_eq_true rfl⟩) zs0 hK ⟨hP, hY⟩ (zr_recv hK hY.1 rfl) rfl hl.1 rfl (Nat.le_of_ble_eq_true rfl) dL_isRight_426 ⟨Nat.le_of_ble_eq_true rfl, Nat.le_of_ble_eq_true rfl⟩ (fun r_426 hr_426 => ?_)
            subst hr_426
            refine zr_top (b := gH g ((i : Int)) 0) (qHir_c (by omega) (by omega) (by decide) (by decide)) ?_
            have hh_426 := iv_hi hI (h := ((i : Int))) (by omega) (by omega)
            refine lv_aload_n (pc := 429) hx hb dL_isRight_429 rfl (lv_at hl 0 rfl) ?_
            refine lv_iload (pc := 430) hx hb dL_isRight_430 (lv_at hl 5 rfl) ?_
            refine lv_iconst (pc := 432) (v := zI 0) hx hb dL_isRight_432 rfl ?_
            refine zr_vi (pc := 433) (As := [.int (zI ((k : Int))), .int (zI (0))]) (rest := [.int (zI (gH g ((i : Int)) 0))]) S (ct_X7_hired l D cI cT ad σ g hR hI tl tx rd rp ((k : Int)) 0 (by omega) (by decide)) (cwV 2 hts gL_isRight_X7_hired rfl rfl rfl (by decide +kernel) ⟨Nat.le_of_ble_eq_true rfl, Nat.le_of_ble_eq_true rfl⟩) zs0 hK ⟨hP, hY⟩ (zr_recv hK hY.1 rfl) rfl hl.1 rfl (Nat.le_of_ble_eq_true rfl) dL_isRight_433 ⟨Nat.le_of_ble_eq_true rfl, Nat.le_of_ble_eq_true rfl⟩ (fun r_433 hr_433 => ?_)
            subst hr_433
            refine zr_top (b := gH g ((k : Int)) 0) (qHir_c (by omega) (by omega) (by decide) (by decide)) ?_
            have hh_433 := iv_hi hI (h := ((k : Int))) (by omega) (by omega)
            refine zr_icmp_ne (pc := 436) (tgt := 478) hx hb dL_isRight_436 (by decide) (by omega) (by omega) (fun c_436 => ?_) (fun c_436 => ?_)
            · refine zr_iinc (pc := 478) (d := ((i : Int)) + 1) (lv' := [(7, .int (zI (((i : Int)) + 1))), (0, .ref (ad 120)), (1, .int (zI (g 0))), (2, .int (zI (awS g ((k : Int) + 1)))), (3, .int (zI (sm (fun h => gH g h 3) (k + 1)))), (4, .int (zI (0))), (5, .int (zI ((k : Int)))), (6, .int (zI (gH g (k : Int) 1 + gH g (k : Int) 2 - 1)))]) hx hb dL_isRight_478 hl (k := 7) rfl rfl (by decide) rfl (fun ls hl => ?_)
              refine lv_goto (pc := 481) (tgt := 415) hx hb dL_isRight_481 (by decide) ?_
              exact ih_415 (i + 1) (by omega) (by omega) ls (lv_sub hl [1, 2, 3, 4, 5, 6, 7, 0] rfl)
            · refine lv_aload_n (pc := 439) hx hb dL_isRight_439 rfl (lv_at hl 0 rfl) ?_
              refine lv_iload (pc := 440) hx hb dL_isRight_440 (lv_at hl 7 rfl) ?_
              refine lv_iconst (pc := 442) (v := zI 1) hx hb dL_isRight_442 rfl ?_
              refine zr_vi (pc := 443) (As := [.int (zI ((i : Int))), .int (zI (1))]) (rest := []) S (ct_X7_hired l D cI cT ad σ g hR hI tl tx rd rp ((i : Int)) 1 (by omega) (by decide)) (cwV 2 hts gL_isRight_X7_hired rfl rfl rfl (by decide +kernel) ⟨Nat.le_of_ble_eq_true rfl, Nat.le_of_ble_eq_true rfl⟩) zs0 hK ⟨hP, hY⟩ (zr_recv hK hY.1 rfl) rfl hl.1 rfl (Nat.le_of_ble_eq_true rfl) dL_isRight_443 ⟨Nat.le_of_ble_eq_true rfl, Nat.le_of_ble_eq_true rfl⟩ (fun r_443 hr_443 => ?_)
              subst hr_443
              refine zr_top (b := gH g ((i : Int)) 1) (qHir_c (by omega) (by omega) (by decide) (by decide)) ?_
              have hh_443 := iv_hi hI (h := ((i : Int))) (by omega) (by omega)
              refine lv_iload (pc := 446) hx hb dL_isRight_446 (lv_at hl 6 rfl) ?_
              refine zr_icmp_gt (pc := 448) (tgt := 478) hx hb dL_isRight_448 (by decide) (by omega) (by omega) (fun c_448 => ?_) (fun c_448 => ?_)
              · refine zr_iinc (pc := 478) (d := ((i : Int)) + 1) (lv' := [(7, .int (zI (((i : Int)) + 1))), (0, .ref (ad 120)), (1, .int (zI (g 0))), (2, .int (zI (awS g ((k : Int) + 1)))), (3, .int (zI (sm (fun h => gH g h 3) (k + 1)))), (4, .int (zI (0))), (5, .int (zI ((k : Int)))), (6, .int (zI (gH g (k : Int) 1 + gH g (k : Int) 2 - 1)))]) hx hb dL_isRight_478 hl (k := 7) rfl rfl (by decide) rfl (fun ls hl => ?_)
                refine lv_goto (pc := 481) (tgt := 415) hx hb dL_isRight_481 (by decide) ?_
                exact ih_415 (i + 1) (by omega) (by omega) ls (lv_sub hl [1, 2, 3, 4, 5, 6, 7, 0] rfl)
              · refine lv_aload_n (pc := 451) hx hb dL_isRight_451 rfl (lv_at hl 0 rfl) ?_
                refine lv_iload (pc := 452) hx hb dL_isRight_452 (lv_at hl 5 rfl) ?_
                refine lv_iconst (pc := 454) (v := zI 1) hx hb dL_isRight_454 rfl ?_
                refine zr_vi (pc := 455) (As := [.int (zI ((k : Int))), .int (zI (1))]) (rest := []) S (ct_X7_hired l D cI cT ad σ g hR hI tl tx rd rp ((k : Int)) 1 (by omega) (by decide)) (cwV 2 hts gL_isRight_X7_hired rfl rfl rfl (by decide +kernel) ⟨Nat.le_of_ble_eq_true rfl, Nat.le_of_ble_eq_true rfl⟩) zs0 hK ⟨hP, hY⟩ (zr_recv hK hY.1 rfl) rfl hl.1 rfl (Nat.le_of_ble_eq_true rfl) dL_isRight_455 ⟨Nat.le_of_ble_eq_true rfl, Nat.le_of_ble_eq_true rfl⟩ (fun r_455 hr_455 => ?_)
                subst hr_455
                refine zr_top (b := gH g ((k : Int)) 1) (qHir_c (by omega) (by omega) (by decide) (by decide)) ?_
                have hh_455 := iv_hi hI (h := ((k : Int))) (by omega) (by omega)
                refine lv_aload_n (pc := 458) hx hb dL_isRight_458 rfl (lv_at hl 0 rfl) ?_
                refine lv_iload (pc := 459) hx hb dL_isRight_459 (lv_at hl 7 rfl) ?_
                refine lv_iconst (pc := 461) (v := zI 1) hx hb dL_isRight_461 rfl ?_
                refine zr_vi (pc := 462) (As := [.int (zI ((i : Int))), .int (zI (1))]) (rest := [.int (zI (gH g ((k : Int)) 1))]) S (ct_X7_hired l D cI cT ad σ g hR hI tl tx rd rp ((i : Int)) 1 (by omega) (by decide)) (cwV 2 hts gL_isRight_X7_hired rfl rfl rfl (by decide +kernel) ⟨Nat.le_of_ble_eq_true rfl, Nat.le_of_ble_eq_true rfl⟩) zs0 hK ⟨hP, hY⟩ (zr_recv hK hY.1 rfl) rfl hl.1 rfl (Nat.le_of_ble_eq_true rfl) dL_isRight_462 ⟨Nat.le_of_ble_eq_true rfl, Nat.le_of_ble_eq_true rfl⟩ (fun r_462 hr_462 => ?_)
                subst hr_462
                refine zr_top (b := gH g ((i : Int)) 1) (qHir_c (by omega) (by omega) (by decide) (by decide)) ?_
                have hh_462 := iv_hi hI (h := ((i : Int))) (by omega) (by omega)
                refine lv_aload_n (pc := 465) hx hb dL_isRight_465 rfl (lv_at hl 0 rfl) ?_
                refine lv_iload (pc := 466) hx hb dL_isRight_466 (lv_at hl 7 rfl) ?_
                refine lv_iconst (pc := 468) (v := zI 2) hx hb dL_isRight_468 rfl ?_
                refine zr_vi (pc := 469) (As := [.int (zI ((i : Int))), .int (zI (2))]) (rest := [.int (zI (gH g ((i : Int)) 1)), .int (zI (gH g ((k : Int)) 1))]) S (ct_X7_hired l D cI cT ad σ g hR hI tl tx rd rp ((i : Int)) 2 (by omega) (by decide)) (cwV 2 hts gL_isRight_X7_hired rfl rfl rfl (by decide +kernel) ⟨Nat.le_of_ble_eq_true rfl, Nat.le_of_ble_eq_true rfl⟩) zs0 hK ⟨hP, hY⟩ (zr_recv hK hY.1 rfl) rfl hl.1 rfl (Nat.le_of_ble_eq_true rfl) dL_isRight_469 ⟨Nat.le_of_ble_eq_true rfl, Nat.le_of_ble_eq_true rfl⟩ (fun r_469 hr_469 => ?_)
                subst hr_469
                refine zr_top (b := gH g ((i : Int)) 2) (qHir_c (by omega) (by omega) (by decide) (by decide)) ?_
                have hh_469 := iv_hi hI (h := ((i : Int))) (by omega) (by omega)
                refine zr_iadd (pc := 472) (d := (gH g ((i : Int)) 1) + (gH g ((i : Int)) 2)) hx hb dL_isRight_472 rfl ?_
                refine zr_icmp_ge (pc := 473) (tgt := 478) hx hb dL_isRight_473 (by decide) (by omega) (by omega) (fun c_473 => ?_) (fun c_473 => ?_)
                · refine zr_iinc (pc := 478) (d := ((i : Int)) + 1) (lv' := [(7, .int (zI (((i : Int)) + 1))), (0, .ref (ad 120)), (1, .int (zI (g 0))), (2, .int (zI (awS g ((k : Int) + 1)))), (3, .int (zI (sm (fun h => gH g h 3) (k + 1)))), (4, .int (zI (0))), (5, .int (zI ((k : Int)))), (6, .int (zI (gH g (k : Int) 1 + gH g (k : Int) 2 - 1)))]) hx hb dL_isRight_478 hl (k := 7) rfl rfl (by decide) rfl (fun ls hl => ?_)
                  refine lv_goto (pc := 481) (tgt := 415) hx hb dL_isRight_481 (by decide) ?_
                  exact ih_415 (i + 1) (by omega) (by omega) ls (lv_sub hl [1, 2, 3, 4, 5, 6, 7, 0] rfl)
                · exact (hN (i : Int) (k : Int) (by omega) (by omega) (by omega) c_436 (by omega) (by omega)).elim
  · refine lv_iconst (pc := 22) (v := zI 0) hx hb dL_isRight_22 rfl ?_
    refine lv_istore (pc := 23) (lv' := [(6, .int (zI (0))), (0, .ref (ad 120)), (1, .int (zI (g 0))), (2, .int (zI (awS g 0))), (3, .int (zI (0))), (4, .int (zI (0))), (5, .int (zI ((k : Int))))]) hx hb dL_isRight_23 hl (by decide) rfl (fun ls hl => ?_)
    refine zr_loop1 (fun (q : Nat) => ((q : Int) ≤ 3)) (fun (q : Nat) => (3 : Int).toNat - q) (fun (q : Nat) => [(0, .ref (ad 120)), (1, .int (zI (g 0))), (2, .int (zI (awS g 0))), (3, .int (zI (0))), (4, .int (zI (0))), (5, .int (zI ((k : Int)))), (6, .int (zI ((q : Int))))]) ?_ (0) (by omega) (lv_sub hl [1, 2, 3, 4, 5, 6, 0] rfl)
    intro q hinv ih_25 ls hl
    obtain h_q := hinv
    refine lv_iload (pc := 25) hx hb dL_isRight_25 (lv_at hl 6 rfl) ?_
    refine lv_iconst (pc := 27) (v := zI 3) hx hb dL_isRight_27 rfl ?_
    refine zr_icmp_ge (pc := 28) (tgt := 166) hx hb dL_isRight_28 (by decide) (by omega) (by decide) (fun c_28 => ?_) (fun c_28 => ?_)
    · refine lv_aload_n (pc := 166) hx hb dL_isRight_166 rfl (lv_at hl 0 rfl) ?_
      refine lv_iload (pc := 167) hx hb dL_isRight_167 (lv_at hl 5 rfl) ?_
      refine lv_bipush (pc := 169) (v := zI 9) hx hb dL_isRight_169 zc_bipush_9 ?_
      refine zr_vi (pc := 171) (As := [.int (zI ((k : Int))), .int (zI (9))]) (rest := []) S (ct_X7_costume l D cI cT ad σ g hR hI tl tx rd rp ((k : Int)) 9 (by omega) (by decide)) (cwV 2 hts gL_isRight_X7_costume rfl rfl rfl (by decide +kernel) ⟨Nat.le_of_ble_eq_true rfl, Nat.le_of_ble_eq_true rfl⟩) zs0 hK ⟨hP, hY⟩ (zr_recv hK hY.1 rfl) rfl hl.1 rfl (Nat.le_of_ble_eq_true rfl) dL_isRight_171 ⟨Nat.le_of_ble_eq_true rfl, Nat.le_of_ble_eq_true rfl⟩ (fun r_171 hr_171 => ?_)
      subst hr_171
      refine zr_top (b := gC g ((k : Int)) 6) (qCos_c (by omega) (by omega) (by decide) (by decide) (by decide)) ?_
      have hdi := iv_di hI (c := (k : Int)) (by omega) (by omega)
      refine zr_if_lt (pc := 174) (tgt := 190) hx hb dL_isRight_174 (by decide) (by omega) (fun c_174 => ?_) (fun c_174 => ?_)
      · exact absurd c_174 (by omega)
      · refine lv_aload_n (pc := 177) hx hb dL_isRight_177 rfl (lv_at hl 0 rfl) ?_
        refine lv_iload (pc := 178) hx hb dL_isRight_178 (lv_at hl 5 rfl) ?_
        refine lv_bipush (pc := 180) (v := zI 9) hx hb dL_isRight_180 zc_bipush_9 ?_
        refine zr_vi (pc := 182) (As := [.int (zI ((k : Int))), .int (zI (9))]) (rest := []) S (ct_X7_costume l D cI cT ad σ g hR hI tl tx rd rp ((k : Int)) 9 (by omega) (by decide)) (cwV 2 hts gL_isRight_X7_costume rfl rfl rfl (by decide +kernel) ⟨Nat.le_of_ble_eq_true rfl, Nat.le_of_ble_eq_true rfl⟩) zs0 hK ⟨hP, hY⟩ (zr_recv hK hY.1 rfl) rfl hl.1 rfl (Nat.le_of_ble_eq_true rfl) dL_isRight_182 ⟨Nat.le_of_ble_eq_true rfl, Nat.le_of_ble_eq_true rfl⟩ (fun r_182 hr_182 => ?_)
        subst hr_182
        refine zr_top (b := gC g ((k : Int)) 6) (qCos_c (by omega) (by omega) (by decide) (by decide) (by decide)) ?_
        refine lv_bipush (pc := 185) (v := zI 9) hx hb dL_isRight_185 zc_bipush_9 ?_
        refine zr_icmp_le (pc := 187) (tgt := 192) hx hb dL_isRight_187 (by decide) (by omega) (by decide) (fun c_187 => ?_) (fun c_187 => ?_)
        · refine lv_iconst (pc := 192) (v := zI 0) hx hb dL_isRight_192 rfl ?_
          refine lv_istore (pc := 193) (lv' := [(6, .int (zI (0))), (0, .ref (ad 120)), (1, .int (zI (g 0))), (2, .int (zI (awS g 0))), (3, .int (zI (0))), (4, .int (zI (0))), (5, .int (zI ((k : Int))))]) hx hb dL_isRight_193 hl (by decide) rfl (fun ls hl => ?_)
          refine zr_loop1 (fun (a : Nat) => ((a : Int) ≤ g 1)) (fun (a : Nat) => (g 1 : Int).toNat - a) (fun (a : Nat) => [(0, .ref (ad 120)), (1, .int (zI (g 0))), (2, .int (zI (awS g 0))), (3, .int (zI (0))), (4, .int (zI (0))), (5, .int (zI ((k : Int)))), (6, .int (zI ((a : Int))))]) ?_ (0) (by omega) (lv_sub hl [1, 2, 3, 4, 5, 6, 0] rfl)
          intro a hinv ih_195 ls hl
          obtain h_a := hinv
          refine lv_iload (pc := 195) hx hb dL_isRight_195 (lv_at hl 6 rfl) ?_
          refine lv_aload_n (pc := 197) hx hb dL_isRight_197 rfl (lv_at hl 0 rfl) ?_
          refine lv_iconst (pc := 198) (v := zI 1) hx hb dL_isRight_198 rfl ?_
          refine zr_vi (pc := 199) (As := [.int (zI (1))]) (rest := [.int (zI ((a : Int)))]) S (ct_X7_count l D cI cT ad σ g hR hI n m tl tx rd rp 1 (by decide)) (cwV 1 hts gL_isRight_X7_count rfl rfl rfl (by decide +kernel) ⟨Nat.le_of_ble_eq_true rfl, Nat.le_of_ble_eq_true rfl⟩) zs0 hK ⟨hP, hH1, hY⟩ (zr_recv hK hY.1 rfl) rfl hl.1 rfl (Nat.le_of_ble_eq_true rfl) dL_isRight_199 ⟨Nat.le_of_ble_eq_true rfl, Nat.le_of_ble_eq_true rfl⟩ (fun r_199 hr_199 => ?_)
          subst hr_199
          refine zr_top (b := g 1) (rfl) ?_
          refine zr_icmp_ge (pc := 202) (tgt := 278) hx hb dL_isRight_202 (by decide) (by omega) (by omega) (fun c_202 => ?_) (fun c_202 => ?_)
          · refine lv_aload_n (pc := 278) hx hb dL_isRight_278 rfl (lv_at hl 0 rfl) ?_
            refine lv_iload (pc := 279) hx hb dL_isRight_279 (lv_at hl 5 rfl) ?_
            refine lv_iconst (pc := 281) (v := zI 1) hx hb dL_isRight_281 rfl ?_
            refine zr_vi (pc := 282) (As := [.int (zI ((k : Int))), .int (zI (1))]) (rest := []) S (ct_X7_freeFrom l D cI cT ad σ g hR hI tl tx rd rp ((k : Int)) 1 (by omega) (by decide)) (cwV 2 hts gL_isRight_X7_freeFrom rfl rfl rfl (by decide +kernel) ⟨Nat.le_of_ble_eq_true rfl, Nat.le_of_ble_eq_true rfl⟩) zs0 hK ⟨hP, hY⟩ (zr_recv hK hY.1 rfl) rfl hl.1 rfl (Nat.le_of_ble_eq_true rfl) dL_isRight_282 ⟨Nat.le_of_ble_eq_true rfl, Nat.le_of_ble_eq_true rfl⟩ (fun r_282 hr_282 => ?_)
            subst hr_282
            refine zr_top (b := ffd g (k : Int) 1) (tft ⟨⟨by omega, by omega⟩, by decide, by decide⟩) ?_
            have hfb := ffd_bd hI (k : Int)
            refine lv_aload_n (pc := 285) hx hb dL_isRight_285 rfl (lv_at hl 0 rfl) ?_
            refine lv_iconst (pc := 286) (v := zI 3) hx hb dL_isRight_286 rfl ?_
            refine zr_vi (pc := 287) (As := [.int (zI (3))]) (rest := [.int (zI (ffd g (k : Int) 1))]) S (ct_X7_count l D cI cT ad σ g hR hI n m tl tx rd rp 3 (by decide)) (cwV 1 hts gL_isRight_X7_count rfl rfl rfl (by decide +kernel) ⟨Nat.le_of_ble_eq_true rfl, Nat.le_of_ble_eq_true rfl⟩) zs0 hK ⟨hP, hH1, hY⟩ (zr_recv hK hY.1 rfl) rfl hl.1 rfl (Nat.le_of_ble_eq_true rfl) dL_isRight_287 ⟨Nat.le_of_ble_eq_true rfl, Nat.le_of_ble_eq_true rfl⟩ (fun r_287 hr_287 => ?_)
            subst hr_287
            refine zr_top (b := g 3) (rfl) ?_
            refine zr_icmp_ne (pc := 290) (tgt := 297) hx hb dL_isRight_290 (by decide) (by omega) (by omega) (fun c_290 => ?_) (fun c_290 => ?_)
            · refine lv_iconst (pc := 297) (v := zI 0) hx hb dL_isRight_297 rfl ?_
              refine lv_aload_n (pc := 298) hx hb dL_isRight_298 rfl (lv_at hl 0 rfl) ?_
              refine lv_bipush (pc := 299) (v := zI 8) hx hb dL_isRight_299 zc_bipush_8 ?_
              refine zr_vi (pc := 301) (As := [.int (zI (8))]) (rest := [.int (zI (0))]) S (ct_X7_count l D cI cT ad σ g hR hI n m tl tx rd rp 8 (by decide)) (cwV 1 hts gL_isRight_X7_count rfl rfl rfl (by decide +kernel) ⟨Nat.le_of_ble_eq_true rfl, Nat.le_of_ble_eq_true rfl⟩) zs0 hK ⟨hP, hH1, hY⟩ (zr_recv hK hY.1 rfl) rfl hl.1 rfl (Nat.le_of_ble_eq_true rfl) dL_isRight_301 ⟨Nat.le_of_ble_eq_true rfl, Nat.le_of_ble_eq_true rfl⟩ (fun r_301 hr_301 => ?_)
              subst hr_301
              refine zr_top (b := aset g (g 0).toNat) (rfl) ?_
              refine lv_iload (pc := 304) hx hb dL_isRight_304 (lv_at hl 5 rfl) ?_
              refine zr_ishr (pc := 306) (d := (aset g (g 0).toNat) / pw ((k : Int))) hx hb dL_isRight_306 (zi_shr (by omega) (by omega) (by omega) (by omega)) ?_
              refine lv_iconst (pc := 307) (v := zI 1) hx hb dL_isRight_307 rfl ?_
              refine zr_iand (pc := 308) (d := ((aset g (g 0).toNat) / pw ((k : Int))) % 2) hx hb dL_isRight_308 (zi_and1 (dv_bd (by omega) (by omega) _).1 (Int.le_trans (dv_bd (by omega) (by omega) _).2 (by decide))) ?_
              refine lv_iconst (pc := 309) (v := zI 1) hx hb dL_isRight_309 rfl ?_
              refine zr_icmp_ne (pc := 310) (tgt := 317) hx hb dL_isRight_310 (by decide) (by omega) (by decide) (fun c_310 => ?_) (fun c_310 => ?_)
              · refine lv_iconst (pc := 317) (v := zI 0) hx hb dL_isRight_317 rfl ?_
                refine zr_icmp_ne (pc := 318) (tgt := 323) hx hb dL_isRight_318 (by decide) (by decide) (by decide) (fun z => absurd z (by decide)) (fun _ => ?_)
                exact False.elim (by first | exact ffd_a hI ((aset_bit (by omega) (by omega)).mp c_310) c_290 | exact c_290 (ffd_t (fun w => c_310 ((aset_bit (by omega) (by omega)).mpr w))))
              · refine lv_iconst (pc := 313) (v := zI 1) hx hb dL_isRight_313 rfl ?_
                refine lv_goto (pc := 314) (tgt := 318) hx hb dL_isRight_314 (by decide) ?_
                refine zr_icmp_ne (pc := 318) (tgt := 323) hx hb dL_isRight_318 (by decide) (by decide) (by decide) (fun _ => ?_) (fun z => absurd z (by decide))
                refine zr_iinc (pc := 323) (d := ((k : Int)) + 1) (lv' := [(5, .int (zI (((k : Int)) + 1))), (0, .ref (ad 120)), (1, .int (zI (g 0))), (2, .int (zI (awS g 0))), (3, .int (zI (0))), (4, .int (zI (0))), (6, .int (zI ((a : Int))))]) hx hb dL_isRight_323 hl (k := 5) rfl rfl (by decide) rfl (fun ls hl => ?_)
                refine lv_goto (pc := 326) (tgt := 16) hx hb dL_isRight_326 (by decide) ?_
                exact ih_16 (k + 1) (by omega) (by omega) ls (lv_sub hl [1, 2, 3, 4, 5, 0] rfl)
            · refine lv_iconst (pc := 293) (v := zI 1) hx hb dL_isRight_293 rfl ?_
              refine lv_goto (pc := 294) (tgt := 298) hx hb dL_isRight_294 (by decide) ?_
              refine lv_aload_n (pc := 298) hx hb dL_isRight_298 rfl (lv_at hl 0 rfl) ?_
              refine lv_bipush (pc := 299) (v := zI 8) hx hb dL_isRight_299 zc_bipush_8 ?_
              refine zr_vi (pc := 301) (As := [.int (zI (8))]) (rest := [.int (zI (1))]) S (ct_X7_count l D cI cT ad σ g hR hI n m tl tx rd rp 8 (by decide)) (cwV 1 hts gL_isRight_X7_count rfl rfl rfl (by decide +kernel) ⟨Nat.le_of_ble_eq_true rfl, Nat.le_of_ble_eq_true rfl⟩) zs0 hK ⟨hP, hH1, hY⟩ (zr_recv hK hY.1 rfl) rfl hl.1 rfl (Nat.le_of_ble_eq_true rfl) dL_isRight_301 ⟨Nat.le_of_ble_eq_true rfl, Nat.le_of_ble_eq_true rfl⟩ (fun r_301 hr_301 => ?_)
              subst hr_301
              refine zr_top (b := aset g (g 0).toNat) (rfl) ?_
              refine lv_iload (pc := 304) hx hb dL_isRight_304 (lv_at hl 5 rfl) ?_
              refine zr_ishr (pc := 306) (d := (aset g (g 0).toNat) / pw ((k : Int))) hx hb dL_isRight_306 (zi_shr (by omega) (by omega) (by omega) (by omega)) ?_
              refine lv_iconst (pc := 307) (v := zI 1) hx hb dL_isRight_307 rfl ?_
              refine zr_iand (pc := 308) (d := ((aset g (g 0).toNat) / pw ((k : Int))) % 2) hx hb dL_isRight_308 (zi_and1 (dv_bd (by omega) (by omega) _).1 (Int.le_trans (dv_bd (by omega) (by omega) _).2 (by decide))) ?_
              refine lv_iconst (pc := 309) (v := zI 1) hx hb dL_isRight_309 rfl ?_
              refine zr_icmp_ne (pc := 310) (tgt := 317) hx hb dL_isRight_310 (by decide) (by omega) (by decide) (fun c_310 => ?_) (fun c_310 => ?_)
              · refine lv_iconst (pc := 317) (v := zI 0) hx hb dL_isRight_317 rfl ?_
                refine zr_icmp_ne (pc := 318) (tgt := 323) hx hb dL_isRight_318 (by decide) (by decide) (by decide) (fun _ => ?_) (fun z => absurd z (by decide))
                refine zr_iinc (pc := 323) (d := ((k : Int)) + 1) (lv' := [(5, .int (zI (((k : Int)) + 1))), (0, .ref (ad 120)), (1, .int (zI (g 0))), (2, .int (zI (awS g 0))), (3, .int (zI (0))), (4, .int (zI (0))), (6, .int (zI ((a : Int))))]) hx hb dL_isRight_323 hl (k := 5) rfl rfl (by decide) rfl (fun ls hl => ?_)
                refine lv_goto (pc := 326) (tgt := 16) hx hb dL_isRight_326 (by decide) ?_
                exact ih_16 (k + 1) (by omega) (by omega) ls (lv_sub hl [1, 2, 3, 4, 5, 0] rfl)
              · refine lv_iconst (pc := 313) (v := zI 1) hx hb dL_isRight_313 rfl ?_
                refine lv_goto (pc := 314) (tgt := 318) hx hb dL_isRight_314 (by decide) ?_
                refine zr_icmp_ne (pc := 318) (tgt := 323) hx hb dL_isRight_318 (by decide) (by decide) (by decide) (fun z => absurd z (by decide)) (fun _ => ?_)
                exact False.elim (by first | exact ffd_a hI ((aset_bit (by omega) (by omega)).mp c_310) c_290 | exact c_290 (ffd_t (fun w => c_310 ((aset_bit (by omega) (by omega)).mpr w))))
          · refine lv_aload_n (pc := 205) hx hb dL_isRight_205 rfl (lv_at hl 0 rfl) ?_
            refine lv_iload (pc := 206) hx hb dL_isRight_206 (lv_at hl 5 rfl) ?_
            refine lv_iload (pc := 208) hx hb dL_isRight_208 (lv_at hl 6 rfl) ?_
            refine zr_vi (pc := 210) (As := [.int (zI ((k : Int))), .int (zI ((a : Int)))]) (rest := []) S (ct_X7_misfit l D cI cT ad σ g hR hI tl tx rd rp ((k : Int)) ((a : Int)) (by omega) (by omega)) (cwV 2 hts gL_isRight_X7_misfit rfl rfl rfl (by decide +kernel) ⟨Nat.le_of_ble_eq_true rfl, Nat.le_of_ble_eq_true rfl⟩) zs0 hK ⟨hP, hY⟩ (zr_recv hK hY.1 rfl) rfl hl.1 rfl (Nat.le_of_ble_eq_true rfl) dL_isRight_210 ⟨Nat.le_of_ble_eq_true rfl, Nat.le_of_ble_eq_true rfl⟩ (fun r_210 hr_210 => ?_)
            subst hr_210
            refine zr_top (b := mis g (k : Int) (a : Int)) (tft ⟨⟨by omega, by omega⟩, by omega, by omega⟩) ?_
            have hmb := mis_bd hI (c := (k : Int)) (a := (a : Int)) (by omega) (by omega) (by omega) (by omega)
            refine zr_if_ne (pc := 213) (tgt := 220) hx hb dL_isRight_213 (by decide) (by omega) (fun c_213 => ?_) (fun c_213 => ?_)
            · refine lv_iconst (pc := 220) (v := zI 0) hx hb dL_isRight_220 rfl ?_
              refine lv_aload_n (pc := 221) hx hb dL_isRight_221 rfl (lv_at hl 0 rfl) ?_
              refine lv_iload (pc := 222) hx hb dL_isRight_222 (lv_at hl 5 rfl) ?_
              refine lv_iload (pc := 224) hx hb dL_isRight_224 (lv_at hl 6 rfl) ?_
              refine zr_vi (pc := 226) (As := [.int (zI ((k : Int))), .int (zI ((a : Int)))]) (rest := [.int (zI (0))]) S (ct_X7_leastAlteration l D cI cT ad σ g hR hI tl tx rd rp ((k : Int)) ((a : Int)) (by omega) (by omega)) (cwV 2 hts gL_isRight_X7_leastAlteration rfl rfl rfl (by decide +kernel) ⟨Nat.le_of_ble_eq_true rfl, Nat.le_of_ble_eq_true rfl⟩) zs0 hK ⟨hP, hY⟩ (zr_recv hK hY.1 rfl) rfl hl.1 rfl (Nat.le_of_ble_eq_true rfl) dL_isRight_226 ⟨Nat.le_of_ble_eq_true rfl, Nat.le_of_ble_eq_true rfl⟩ (fun r_226 hr_226 => ?_)
              subst hr_226
              refine zr_top (b := lst g (k : Int) (a : Int)) (tft ⟨⟨by omega, by omega⟩, by omega, by omega⟩) ?_
              have hlb := lst_bd hI (c := (k : Int)) (a := (a : Int)) (by omega) (by omega) (by omega) (by omega)
              have q1 : mis g (k : Int) (a : Int) = 0 → lst g (k : Int) (a : Int) = 0 := mis_lst hI (by omega) (by omega)
              have q2 : 0 ≤ lst g (k : Int) (a : Int) → lst g (k : Int) (a : Int) = mis g (k : Int) (a : Int) := lst_mis
              refine zr_if_ne (pc := 229) (tgt := 236) hx hb dL_isRight_229 (by decide) (by omega) (fun c_229 => ?_) (fun c_229 => ?_)
              · refine lv_iconst (pc := 236) (v := zI 0) hx hb dL_isRight_236 rfl ?_
                refine zr_icmp_ne (pc := 237) (tgt := 270) hx hb dL_isRight_237 (by decide) (by decide) (by decide) (fun z => absurd z (by decide)) (fun _ => ?_)
                refine lv_aload_n (pc := 240) hx hb dL_isRight_240 rfl (lv_at hl 0 rfl) ?_
                refine lv_iload (pc := 241) hx hb dL_isRight_241 (lv_at hl 5 rfl) ?_
                refine lv_iload (pc := 243) hx hb dL_isRight_243 (lv_at hl 6 rfl) ?_
                refine zr_vi (pc := 245) (As := [.int (zI ((k : Int))), .int (zI ((a : Int)))]) (rest := []) S (ct_X7_leastAlteration l D cI cT ad σ g hR hI tl tx rd rp ((k : Int)) ((a : Int)) (by omega) (by omega)) (cwV 2 hts gL_isRight_X7_leastAlteration rfl rfl rfl (by decide +kernel) ⟨Nat.le_of_ble_eq_true rfl, Nat.le_of_ble_eq_true rfl⟩) zs0 hK ⟨hP, hY⟩ (zr_recv hK hY.1 rfl) rfl hl.1 rfl (Nat.le_of_ble_eq_true rfl) dL_isRight_245 ⟨Nat.le_of_ble_eq_true rfl, Nat.le_of_ble_eq_true rfl⟩ (fun r_245 hr_245 => ?_)
                subst hr_245
                refine zr_top (b := lst g (k : Int) (a : Int)) (tft ⟨⟨by omega, by omega⟩, by omega, by omega⟩) ?_
                refine zr_if_le (pc := 248) (tgt := 272) hx hb dL_isRight_248 (by decide) (by omega) (fun c_248 => ?_) (fun c_248 => ?_)
                · refine zr_iinc (pc := 272) (d := ((a : Int)) + 1) (lv' := [(6, .int (zI (((a : Int)) + 1))), (0, .ref (ad 120)), (1, .int (zI (g 0))), (2, .int (zI (awS g 0))), (3, .int (zI (0))), (4, .int (zI (0))), (5, .int (zI ((k : Int))))]) hx hb dL_isRight_272 hl (k := 6) rfl rfl (by decide) rfl (fun ls hl => ?_)
                  refine lv_goto (pc := 275) (tgt := 195) hx hb dL_isRight_275 (by decide) ?_
                  exact ih_195 (a + 1) (by omega) (by omega) ls (lv_sub hl [1, 2, 3, 4, 5, 6, 0] rfl)
                · refine lv_aload_n (pc := 251) hx hb dL_isRight_251 rfl (lv_at hl 0 rfl) ?_
                  refine lv_iload (pc := 252) hx hb dL_isRight_252 (lv_at hl 5 rfl) ?_
                  refine lv_iload (pc := 254) hx hb dL_isRight_254 (lv_at hl 6 rfl) ?_
                  refine zr_vi (pc := 256) (As := [.int (zI ((k : Int))), .int (zI ((a : Int)))]) (rest := []) S (ct_X7_leastAlteration l D cI cT ad σ g hR hI tl tx rd rp ((k : Int)) ((a : Int)) (by omega) (by omega)) (cwV 2 hts gL_isRight_X7_leastAlteration rfl rfl rfl (by decide +kernel) ⟨Nat.le_of_ble_eq_true rfl, Nat.le_of_ble_eq_true rfl⟩) zs0 hK ⟨hP, hY⟩ (zr_recv hK hY.1 rfl) rfl hl.1 rfl (Nat.le_of_ble_eq_true rfl) dL_isRight_256 ⟨Nat.le_of_ble_eq_true rfl, Nat.le_of_ble_eq_true rfl⟩ (fun r_256 hr_256 => ?_)
                  subst hr_256
                  refine zr_top (b := lst g (k : Int) (a : Int)) (tft ⟨⟨by omega, by omega⟩, by omega, by omega⟩) ?_
                  refine lv_aload_n (pc := 259) hx hb dL_isRight_259 rfl (lv_at hl 0 rfl) ?_
                  refine lv_iload (pc := 260) hx hb dL_isRight_260 (lv_at hl 5 rfl) ?_
                  refine lv_iload (pc := 262) hx hb dL_isRight_262 (lv_at hl 6 rfl) ?_
                  refine zr_vi (pc := 264) (As := [.int (zI ((k : Int))), .int (zI ((a : Int)))]) (rest := [.int (zI (lst g (k : Int) (a : Int)))]) S (ct_X7_misfit l D cI cT ad σ g hR hI tl tx rd rp ((k : Int)) ((a : Int)) (by omega) (by omega)) (cwV 2 hts gL_isRight_X7_misfit rfl rfl rfl (by decide +kernel) ⟨Nat.le_of_ble_eq_true rfl, Nat.le_of_ble_eq_true rfl⟩) zs0 hK ⟨hP, hY⟩ (zr_recv hK hY.1 rfl) rfl hl.1 rfl (Nat.le_of_ble_eq_true rfl) dL_isRight_264 ⟨Nat.le_of_ble_eq_true rfl, Nat.le_of_ble_eq_true rfl⟩ (fun r_264 hr_264 => ?_)
                  subst hr_264
                  refine zr_top (b := mis g (k : Int) (a : Int)) (tft ⟨⟨by omega, by omega⟩, by omega, by omega⟩) ?_
                  refine zr_icmp_eq (pc := 267) (tgt := 272) hx hb dL_isRight_267 (by decide) (by omega) (by omega) (fun c_267 => ?_) (fun c_267 => ?_)
                  · refine zr_iinc (pc := 272) (d := ((a : Int)) + 1) (lv' := [(6, .int (zI (((a : Int)) + 1))), (0, .ref (ad 120)), (1, .int (zI (g 0))), (2, .int (zI (awS g 0))), (3, .int (zI (0))), (4, .int (zI (0))), (5, .int (zI ((k : Int))))]) hx hb dL_isRight_272 hl (k := 6) rfl rfl (by decide) rfl (fun ls hl => ?_)
                    refine lv_goto (pc := 275) (tgt := 195) hx hb dL_isRight_275 (by decide) ?_
                    exact ih_195 (a + 1) (by omega) (by omega) ls (lv_sub hl [1, 2, 3, 4, 5, 6, 0] rfl)
                  · exact absurd c_267 (by omega)
              · refine lv_iconst (pc := 232) (v := zI 1) hx hb dL_isRight_232 rfl ?_
                refine lv_goto (pc := 233) (tgt := 237) hx hb dL_isRight_233 (by decide) ?_
                refine zr_icmp_ne (pc := 237) (tgt := 270) hx hb dL_isRight_237 (by decide) (by decide) (by decide) (fun _ => ?_) (fun z => absurd z (by decide))
                exact False.elim (by omega)
            · refine lv_iconst (pc := 216) (v := zI 1) hx hb dL_isRight_216 rfl ?_
              refine lv_goto (pc := 217) (tgt := 221) hx hb dL_isRight_217 (by decide) ?_
              refine lv_aload_n (pc := 221) hx hb dL_isRight_221 rfl (lv_at hl 0 rfl) ?_
              refine lv_iload (pc := 222) hx hb dL_isRight_222 (lv_at hl 5 rfl) ?_
              refine lv_iload (pc := 224) hx hb dL_isRight_224 (lv_at hl 6 rfl) ?_
              refine zr_vi (pc := 226) (As := [.int (zI ((k : Int))), .int (zI ((a : Int)))]) (rest := [.int (zI (1))]) S (ct_X7_leastAlteration l D cI cT ad σ g hR hI tl tx rd rp ((k : Int)) ((a : Int)) (by omega) (by omega)) (cwV 2 hts gL_isRight_X7_leastAlteration rfl rfl rfl (by decide +kernel) ⟨Nat.le_of_ble_eq_true rfl, Nat.le_of_ble_eq_true rfl⟩) zs0 hK ⟨hP, hY⟩ (zr_recv hK hY.1 rfl) rfl hl.1 rfl (Nat.le_of_ble_eq_true rfl) dL_isRight_226 ⟨Nat.le_of_ble_eq_true rfl, Nat.le_of_ble_eq_true rfl⟩ (fun r_226 hr_226 => ?_)
              subst hr_226
              refine zr_top (b := lst g (k : Int) (a : Int)) (tft ⟨⟨by omega, by omega⟩, by omega, by omega⟩) ?_
              have hlb := lst_bd hI (c := (k : Int)) (a := (a : Int)) (by omega) (by omega) (by omega) (by omega)
              have q1 : mis g (k : Int) (a : Int) = 0 → lst g (k : Int) (a : Int) = 0 := mis_lst hI (by omega) (by omega)
              have q2 : 0 ≤ lst g (k : Int) (a : Int) → lst g (k : Int) (a : Int) = mis g (k : Int) (a : Int) := lst_mis
              refine zr_if_ne (pc := 229) (tgt := 236) hx hb dL_isRight_229 (by decide) (by omega) (fun c_229 => ?_) (fun c_229 => ?_)
              · refine lv_iconst (pc := 236) (v := zI 0) hx hb dL_isRight_236 rfl ?_
                refine zr_icmp_ne (pc := 237) (tgt := 270) hx hb dL_isRight_237 (by decide) (by decide) (by decide) (fun _ => ?_) (fun z => absurd z (by decide))
                exact False.elim (by omega)
              · refine lv_iconst (pc := 232) (v := zI 1) hx hb dL_isRight_232 rfl ?_
                refine lv_goto (pc := 233) (tgt := 237) hx hb dL_isRight_233 (by decide) ?_
                refine zr_icmp_ne (pc := 237) (tgt := 270) hx hb dL_isRight_237 (by decide) (by decide) (by decide) (fun z => absurd z (by decide)) (fun _ => ?_)
                refine lv_aload_n (pc := 240) hx hb dL_isRight_240 rfl (lv_at hl 0 rfl) ?_
                refine lv_iload (pc := 241) hx hb dL_isRight_241 (lv_at hl 5 rfl) ?_
                refine lv_iload (pc := 243) hx hb dL_isRight_243 (lv_at hl 6 rfl) ?_
                refine zr_vi (pc := 245) (As := [.int (zI ((k : Int))), .int (zI ((a : Int)))]) (rest := []) S (ct_X7_leastAlteration l D cI cT ad σ g hR hI tl tx rd rp ((k : Int)) ((a : Int)) (by omega) (by omega)) (cwV 2 hts gL_isRight_X7_leastAlteration rfl rfl rfl (by decide +kernel) ⟨Nat.le_of_ble_eq_true rfl, Nat.le_of_ble_eq_true rfl⟩) zs0 hK ⟨hP, hY⟩ (zr_recv hK hY.1 rfl) rfl hl.1 rfl (Nat.le_of_ble_eq_true rfl) dL_isRight_245 ⟨Nat.le_of_ble_eq_true rfl, Nat.le_of_ble_eq_true rfl⟩ (fun r_245 hr_245 => ?_)
                subst hr_245
                refine zr_top (b := lst g (k : Int) (a : Int)) (tft ⟨⟨by omega, by omega⟩, by omega, by omega⟩) ?_
                refine zr_if_le (pc := 248) (tgt := 272) hx hb dL_isRight_248 (by decide) (by omega) (fun c_248 => ?_) (fun c_248 => ?_)
                · refine zr_iinc (pc := 272) (d := ((a : Int)) + 1) (lv' := [(6, .int (zI (((a : Int)) + 1))), (0, .ref (ad 120)), (1, .int (zI (g 0))), (2, .int (zI (awS g 0))), (3, .int (zI (0))), (4, .int (zI (0))), (5, .int (zI ((k : Int))))]) hx hb dL_isRight_272 hl (k := 6) rfl rfl (by decide) rfl (fun ls hl => ?_)
                  refine lv_goto (pc := 275) (tgt := 195) hx hb dL_isRight_275 (by decide) ?_
                  exact ih_195 (a + 1) (by omega) (by omega) ls (lv_sub hl [1, 2, 3, 4, 5, 6, 0] rfl)
                · refine lv_aload_n (pc := 251) hx hb dL_isRight_251 rfl (lv_at hl 0 rfl) ?_
                  refine lv_iload (pc := 252) hx hb dL_isRight_252 (lv_at hl 5 rfl) ?_
                  refine lv_iload (pc := 254) hx hb dL_isRight_254 (lv_at hl 6 rfl) ?_
                  refine zr_vi (pc := 256) (As := [.int (zI ((k : Int))), .int (zI ((a : Int)))]) (rest := []) S (ct_X7_leastAlteration l D cI cT ad σ g hR hI tl tx rd rp ((k : Int)) ((a : Int)) (by omega) (by omega)) (cwV 2 hts gL_isRight_X7_leastAlteration rfl rfl rfl (by decide +kernel) ⟨Nat.le_of_ble_eq_true rfl, Nat.le_of_ble_eq_true rfl⟩) zs0 hK ⟨hP, hY⟩ (zr_recv hK hY.1 rfl) rfl hl.1 rfl (Nat.le_of_ble_eq_true rfl) dL_isRight_256 ⟨Nat.le_of_ble_eq_true rfl, Nat.le_of_ble_eq_true rfl⟩ (fun r_256 hr_256 => ?_)
                  subst hr_256
                  refine zr_top (b := lst g (k : Int) (a : Int)) (tft ⟨⟨by omega, by omega⟩, by omega, by omega⟩) ?_
                  refine lv_aload_n (pc := 259) hx hb dL_isRight_259 rfl (lv_at hl 0 rfl) ?_
                  refine lv_iload (pc := 260) hx hb dL_isRight_260 (lv_at hl 5 rfl) ?_
                  refine lv_iload (pc := 262) hx hb dL_isRight_262 (lv_at hl 6 rfl) ?_
                  refine zr_vi (pc := 264) (As := [.int (zI ((k : Int))), .int (zI ((a : Int)))]) (rest := [.int (zI (lst g (k : Int) (a : Int)))]) S (ct_X7_misfit l D cI cT ad σ g hR hI tl tx rd rp ((k : Int)) ((a : Int)) (by omega) (by omega)) (cwV 2 hts gL_isRight_X7_misfit rfl rfl rfl (by decide +kernel) ⟨Nat.le_of_ble_eq_true rfl, Nat.le_of_ble_eq_true rfl⟩) zs0 hK ⟨hP, hY⟩ (zr_recv hK hY.1 rfl) rfl hl.1 rfl (Nat.le_of_ble_eq_true rfl) dL_isRight_264 ⟨Nat.le_of_ble_eq_true rfl, Nat.le_of_ble_eq_true rfl⟩ (fun r_264 hr_264 => ?_)
                  subst hr_264
                  refine zr_top (b := mis g (k : Int) (a : Int)) (tft ⟨⟨by omega, by omega⟩, by omega, by omega⟩) ?_
                  refine zr_icmp_eq (pc := 267) (tgt := 272) hx hb dL_isRight_267 (by decide) (by omega) (by omega) (fun c_267 => ?_) (fun c_267 => ?_)
                  · refine zr_iinc (pc := 272) (d := ((a : Int)) + 1) (lv' := [(6, .int (zI (((a : Int)) + 1))), (0, .ref (ad 120)), (1, .int (zI (g 0))), (2, .int (zI (awS g 0))), (3, .int (zI (0))), (4, .int (zI (0))), (5, .int (zI ((k : Int))))]) hx hb dL_isRight_272 hl (k := 6) rfl rfl (by decide) rfl (fun ls hl => ?_)
                    refine lv_goto (pc := 275) (tgt := 195) hx hb dL_isRight_275 (by decide) ?_
                    exact ih_195 (a + 1) (by omega) (by omega) ls (lv_sub hl [1, 2, 3, 4, 5, 6, 0] rfl)
                  · exact absurd c_267 (by omega)
        · exact absurd c_187 (by omega)
    · refine lv_aload_n (pc := 31) hx hb dL_isRight_31 rfl (lv_at hl 0 rfl) ?_
      refine lv_iload (pc := 32) hx hb dL_isRight_32 (lv_at hl 5 rfl) ?_
      refine lv_iconst (pc := 34) (v := zI 3) hx hb dL_isRight_34 rfl ?_
      refine lv_iload (pc := 35) hx hb dL_isRight_35 (lv_at hl 6 rfl) ?_
      refine zr_iadd (pc := 37) (d := 3 + ((q : Int))) hx hb dL_isRight_37 rfl ?_
      refine zr_vi (pc := 38) (As := [.int (zI ((k : Int))), .int (zI (3 + ((q : Int))))]) (rest := []) S (ct_X7_costume l D cI cT ad σ g hR hI tl tx rd rp ((k : Int)) (3 + ((q : Int))) (by omega) (by omega)) (cwV 2 hts gL_isRight_X7_costume rfl rfl rfl (by decide +kernel) ⟨Nat.le_of_ble_eq_true rfl, Nat.le_of_ble_eq_true rfl⟩) zs0 hK ⟨hP, hY⟩ (zr_recv hK hY.1 rfl) rfl hl.1 rfl (Nat.le_of_ble_eq_true rfl) dL_isRight_38 ⟨Nat.le_of_ble_eq_true rfl, Nat.le_of_ble_eq_true rfl⟩ (fun r_38 hr_38 => ?_)
      subst hr_38
      refine zr_top (b := ps g (k : Int) (q : Int) 0) ((qCos_o (by omega) (by omega) (by omega) (by omega)).trans (ps_0 _ _ _).symm) ?_
      refine lv_istore (pc := 41) (lv' := [(7, .int (zI (ps g (k : Int) (q : Int) 0))), (0, .ref (ad 120)), (1, .int (zI (g 0))), (2, .int (zI (awS g 0))), (3, .int (zI (0))), (4, .int (zI (0))), (5, .int (zI ((k : Int)))), (6, .int (zI ((q : Int))))]) hx hb dL_isRight_41 hl (by decide) rfl (fun ls hl => ?_)
      refine lv_iconst (pc := 43) (v := zI 0) hx hb dL_isRight_43 rfl ?_
      refine lv_istore (pc := 44) (lv' := [(8, .int (zI (0))), (7, .int (zI (ps g (k : Int) (q : Int) 0))), (0, .ref (ad 120)), (1, .int (zI (g 0))), (2, .int (zI (awS g 0))), (3, .int (zI (0))), (4, .int (zI (0))), (5, .int (zI ((k : Int)))), (6, .int (zI ((q : Int))))]) hx hb dL_isRight_44 hl (by decide) rfl (fun ls hl => ?_)
      refine zr_loop1 (fun (i : Nat) => ((i : Int) ≤ gC g (k : Int) 7)) (fun (i : Nat) => 7 - i) (fun (i : Nat) => [(0, .ref (ad 120)), (1, .int (zI (g 0))), (2, .int (zI (awS g 0))), (3, .int (zI (0))), (4, .int (zI (0))), (5, .int (zI ((k : Int)))), (6, .int (zI ((q : Int)))), (7, .int (zI (ps g (k : Int) (q : Int) i))), (8, .int (zI ((i : Int))))]) ?_ (0) (by have := iv_na hI (c := (k : Int)) (by omega) (by omega); omega) (lv_sub hl [2, 3, 4, 5, 6, 7, 8, 1, 0] rfl)
      intro i hinv ih_46 ls hl
      obtain h_i := hinv
      have hna := iv_na hI (c := (k : Int)) (by omega) (by omega)
      refine lv_aload_n (pc := 46) hx hb dL_isRight_46 rfl (lv_at hl 0 rfl) ?_
      refine lv_iload (pc := 47) hx hb dL_isRight_47 (lv_at hl 5 rfl) ?_
      refine lv_iload (pc := 49) hx hb dL_isRight_49 (lv_at hl 8 rfl) ?_
      refine lv_iconst (pc := 51) (v := zI 0) hx hb dL_isRight_51 rfl ?_
      refine zr_vi (pc := 52) (As := [.int (zI ((k : Int))), .int (zI ((i : Int))), .int (zI (0))]) (rest := []) S (ct_X7_alteration l D cI cT ad σ g hR hI tl tx rd rp ((k : Int)) ((i : Int)) 0 (by omega) (by omega) (by decide)) (cwV 3 hts gL_isRight_X7_alteration rfl rfl rfl (by decide +kernel) ⟨Nat.le_of_ble_eq_true rfl, Nat.le_of_ble_eq_true rfl⟩) zs0 hK ⟨hP, hY⟩ (zr_recv hK hY.1 rfl) rfl hl.1 rfl (Nat.le_of_ble_eq_true rfl) dL_isRight_52 ⟨Nat.le_of_ble_eq_true rfl, Nat.le_of_ble_eq_true rfl⟩ (fun r_52 hr_52 => ?_)
      replace hr_52 := qAlt_or (g := g) (c := ((k : Int))) (k := ((i : Int))) (by omega) (by omega) (by omega) hr_52
      rcases hr_52 with ⟨hb_52, rfl⟩ | ⟨hb_52, rfl⟩
      · have ham := iv_am hI (c := ((k : Int))) (k := ((i : Int))) (by omega) (by omega) (by omega) hb_52
        have hac := iv_ac hI (c := ((k : Int))) (k := ((i : Int))) (by omega) (by omega) (by omega) hb_52
        refine zr_if_lt (pc := 55) (tgt := 96) hx hb dL_isRight_55 (by decide) (by omega) (fun c_55 => ?_) (fun c_55 => ?_)
        · exact absurd c_55 (by omega)
        · refine lv_iload (pc := 58) hx hb dL_isRight_58 (lv_at hl 7 rfl) ?_
          refine lv_aload_n (pc := 60) hx hb dL_isRight_60 rfl (lv_at hl 0 rfl) ?_
          refine lv_iload (pc := 61) hx hb dL_isRight_61 (lv_at hl 5 rfl) ?_
          refine lv_iload (pc := 63) hx hb dL_isRight_63 (lv_at hl 8 rfl) ?_
          refine lv_iconst (pc := 65) (v := zI 0) hx hb dL_isRight_65 rfl ?_
          refine zr_vi (pc := 66) (As := [.int (zI ((k : Int))), .int (zI ((i : Int))), .int (zI (0))]) (rest := [.int (zI (ps g (k : Int) (q : Int) i))]) S (ct_X7_alteration l D cI cT ad σ g hR hI tl tx rd rp ((k : Int)) ((i : Int)) 0 (by omega) (by omega) (by decide)) (cwV 3 hts gL_isRight_X7_alteration rfl rfl rfl (by decide +kernel) ⟨Nat.le_of_ble_eq_true rfl, Nat.le_of_ble_eq_true rfl⟩) zs0 hK ⟨hP, hY⟩ (zr_recv hK hY.1 rfl) rfl hl.1 rfl (Nat.le_of_ble_eq_true rfl) dL_isRight_66 ⟨Nat.le_of_ble_eq_true rfl, Nat.le_of_ble_eq_true rfl⟩ (fun r_66 hr_66 => ?_)
          subst hr_66
          refine zr_top (b := gM g (k : Int) (i : Int)) (qAlt_0 (by omega) (by omega) (by omega) hb_52) ?_
          refine lv_iload (pc := 69) hx hb dL_isRight_69 (lv_at hl 6 rfl) ?_
          refine zr_icmp_ne (pc := 71) (tgt := 86) hx hb dL_isRight_71 (by decide) (by omega) (by omega) (fun c_71 => ?_) (fun c_71 => ?_)
          · refine lv_iconst (pc := 86) (v := zI 0) hx hb dL_isRight_86 rfl ?_
            refine zr_iadd (pc := 87) (d := ps g (k : Int) (q : Int) (i + 1)) hx hb dL_isRight_87 (by rw [ps_s]; first | (rw [ti_t c_71]; omega) | (rw [ti_f c_71]; omega)) ?_
            refine lv_istore (pc := 88) (lv' := [(7, .int (zI (ps g (k : Int) (q : Int) (i + 1)))), (0, .ref (ad 120)), (1, .int (zI (g 0))), (2, .int (zI (awS g 0))), (3, .int (zI (0))), (4, .int (zI (0))), (5, .int (zI ((k : Int)))), (6, .int (zI ((q : Int)))), (8, .int (zI ((i : Int))))]) hx hb dL_isRight_88 hl (by decide) rfl (fun ls hl => ?_)
            refine zr_iinc (pc := 90) (d := ((i : Int)) + 1) (lv' := [(8, .int (zI (((i : Int)) + 1))), (7, .int (zI (ps g (k : Int) (q : Int) (i + 1)))), (0, .ref (ad 120)), (1, .int (zI (g 0))), (2, .int (zI (awS g 0))), (3, .int (zI (0))), (4, .int (zI (0))), (5, .int (zI ((k : Int)))), (6, .int (zI ((q : Int))))]) hx hb dL_isRight_90 hl (k := 8) rfl rfl (by decide) rfl (fun ls hl => ?_)
            refine lv_goto (pc := 93) (tgt := 46) hx hb dL_isRight_93 (by decide) ?_
            exact ih_46 (i + 1) (by omega) (by omega) ls (lv_sub hl [2, 3, 4, 5, 6, 7, 8, 1, 0] rfl)
          · refine lv_aload_n (pc := 74) hx hb dL_isRight_74 rfl (lv_at hl 0 rfl) ?_
            refine lv_iload (pc := 75) hx hb dL_isRight_75 (lv_at hl 5 rfl) ?_
            refine lv_iload (pc := 77) hx hb dL_isRight_77 (lv_at hl 8 rfl) ?_
            refine lv_iconst (pc := 79) (v := zI 1) hx hb dL_isRight_79 rfl ?_
            refine zr_vi (pc := 80) (As := [.int (zI ((k : Int))), .int (zI ((i : Int))), .int (zI (1))]) (rest := [.int (zI (ps g (k : Int) (q : Int) i))]) S (ct_X7_alteration l D cI cT ad σ g hR hI tl tx rd rp ((k : Int)) ((i : Int)) 1 (by omega) (by omega) (by decide)) (cwV 3 hts gL_isRight_X7_alteration rfl rfl rfl (by decide +kernel) ⟨Nat.le_of_ble_eq_true rfl, Nat.le_of_ble_eq_true rfl⟩) zs0 hK ⟨hP, hY⟩ (zr_recv hK hY.1 rfl) rfl hl.1 rfl (Nat.le_of_ble_eq_true rfl) dL_isRight_80 ⟨Nat.le_of_ble_eq_true rfl, Nat.le_of_ble_eq_true rfl⟩ (fun r_80 hr_80 => ?_)
            subst hr_80
            refine zr_top (b := gX g (k : Int) (i : Int)) (qAlt_1 (by omega) (by omega) (by omega) hb_52) ?_
            refine lv_goto (pc := 83) (tgt := 87) hx hb dL_isRight_83 (by decide) ?_
            refine zr_iadd (pc := 87) (d := ps g (k : Int) (q : Int) (i + 1)) hx hb dL_isRight_87 (by rw [ps_s]; first | (rw [ti_t c_71]; omega) | (rw [ti_f c_71]; omega)) ?_
            refine lv_istore (pc := 88) (lv' := [(7, .int (zI (ps g (k : Int) (q : Int) (i + 1)))), (0, .ref (ad 120)), (1, .int (zI (g 0))), (2, .int (zI (awS g 0))), (3, .int (zI (0))), (4, .int (zI (0))), (5, .int (zI ((k : Int)))), (6, .int (zI ((q : Int)))), (8, .int (zI ((i : Int))))]) hx hb dL_isRight_88 hl (by decide) rfl (fun ls hl => ?_)
            refine zr_iinc (pc := 90) (d := ((i : Int)) + 1) (lv' := [(8, .int (zI (((i : Int)) + 1))), (7, .int (zI (ps g (k : Int) (q : Int) (i + 1)))), (0, .ref (ad 120)), (1, .int (zI (g 0))), (2, .int (zI (awS g 0))), (3, .int (zI (0))), (4, .int (zI (0))), (5, .int (zI ((k : Int)))), (6, .int (zI ((q : Int))))]) hx hb dL_isRight_90 hl (k := 8) rfl rfl (by decide) rfl (fun ls hl => ?_)
            refine lv_goto (pc := 93) (tgt := 46) hx hb dL_isRight_93 (by decide) ?_
            exact ih_46 (i + 1) (by omega) (by omega) ls (lv_sub hl [2, 3, 4, 5, 6, 7, 8, 1, 0] rfl)
      · refine zr_if_lt (pc := 55) (tgt := 96) hx hb dL_isRight_55 (by decide) (by decide) (fun _ => ?_) (fun z => absurd z (by decide))
        refine lv_aload_n (pc := 96) hx hb dL_isRight_96 rfl (lv_at hl 0 rfl) ?_
        refine lv_iload (pc := 97) hx hb dL_isRight_97 (lv_at hl 5 rfl) ?_
        refine lv_iload (pc := 99) hx hb dL_isRight_99 (lv_at hl 6 rfl) ?_
        refine zr_vi (pc := 101) (As := [.int (zI ((k : Int))), .int (zI ((q : Int)))]) (rest := []) S (ct_X7_costume l D cI cT ad σ g hR hI tl tx rd rp ((k : Int)) ((q : Int)) (by omega) (by omega)) (cwV 2 hts gL_isRight_X7_costume rfl rfl rfl (by decide +kernel) ⟨Nat.le_of_ble_eq_true rfl, Nat.le_of_ble_eq_true rfl⟩) zs0 hK ⟨hP, hY⟩ (zr_recv hK hY.1 rfl) rfl hl.1 rfl (Nat.le_of_ble_eq_true rfl) dL_isRight_101 ⟨Nat.le_of_ble_eq_true rfl, Nat.le_of_ble_eq_true rfl⟩ (fun r_101 hr_101 => ?_)
        subst hr_101
        refine zr_top (b := ps g (k : Int) (q : Int) i) ((qCos_p (by omega) (by omega) (by omega) (by omega)).trans (by rw [show i = (gC g (k : Int) 7).toNat by omega]; rfl)) ?_
        have hal := hA (k : Int) (q : Int) i (by omega) (by omega) (by omega) (by omega) (by omega)
        unfold alw at hal
        have hor := iv_or hI (c := (k : Int)) (m := (q : Int)) (by omega) (by omega) (by omega) (by omega)
        have hla := iv_al hI (c := (k : Int)) (by omega) (by omega)
        refine lv_iload (pc := 104) hx hb dL_isRight_104 (lv_at hl 7 rfl) ?_
        refine zr_icmp_ne (pc := 106) (tgt := 158) hx hb dL_isRight_106 (by decide) (by omega) (by omega) (fun c_106 => ?_) (fun c_106 => ?_)
        · exact absurd rfl c_106
        · refine lv_iload (pc := 109) hx hb dL_isRight_109 (lv_at hl 7 rfl) ?_
          refine lv_bipush (pc := 111) (v := zI 40) hx hb dL_isRight_111 zc_bipush_40 ?_
          refine zr_icmp_lt (pc := 113) (tgt := 158) hx hb dL_isRight_113 (by decide) (by omega) (by decide) (fun c_113 => ?_) (fun c_113 => ?_)
          · exact absurd c_113 (by omega)
          · refine lv_iload (pc := 116) hx hb dL_isRight_116 (lv_at hl 7 rfl) ?_
            refine lv_aload_n (pc := 118) hx hb dL_isRight_118 rfl (lv_at hl 0 rfl) ?_
            refine lv_iload (pc := 119) hx hb dL_isRight_119 (lv_at hl 5 rfl) ?_
            refine lv_iconst (pc := 121) (v := zI 3) hx hb dL_isRight_121 rfl ?_
            refine lv_iload (pc := 122) hx hb dL_isRight_122 (lv_at hl 6 rfl) ?_
            refine zr_iadd (pc := 124) (d := 3 + ((q : Int))) hx hb dL_isRight_124 rfl ?_
            refine zr_vi (pc := 125) (As := [.int (zI ((k : Int))), .int (zI (3 + ((q : Int))))]) (rest := [.int (zI (ps g (k : Int) (q : Int) i))]) S (ct_X7_costume l D cI cT ad σ g hR hI tl tx rd rp ((k : Int)) (3 + ((q : Int))) (by omega) (by omega)) (cwV 2 hts gL_isRight_X7_costume rfl rfl rfl (by decide +kernel) ⟨Nat.le_of_ble_eq_true rfl, Nat.le_of_ble_eq_true rfl⟩) zs0 hK ⟨hP, hY⟩ (zr_recv hK hY.1 rfl) rfl hl.1 rfl (Nat.le_of_ble_eq_true rfl) dL_isRight_125 ⟨Nat.le_of_ble_eq_true rfl, Nat.le_of_ble_eq_true rfl⟩ (fun r_125 hr_125 => ?_)
            subst hr_125
            refine zr_top (b := gC g (k : Int) (q : Int)) (qCos_o (by omega) (by omega) (by omega) (by omega)) ?_
            refine lv_bipush (pc := 128) (v := zI 20) hx hb dL_isRight_128 zc_bipush_20 ?_
            refine zr_isub (pc := 130) (d := (gC g (k : Int) (q : Int)) - 20) hx hb dL_isRight_130 rfl ?_
            refine zr_icmp_lt (pc := 131) (tgt := 158) hx hb dL_isRight_131 (by decide) (by omega) (by omega) (fun c_131 => ?_) (fun c_131 => ?_)
            · exact absurd c_131 (by omega)
            · refine lv_iload (pc := 134) hx hb dL_isRight_134 (lv_at hl 7 rfl) ?_
              refine lv_aload_n (pc := 136) hx hb dL_isRight_136 rfl (lv_at hl 0 rfl) ?_
              refine lv_iload (pc := 137) hx hb dL_isRight_137 (lv_at hl 5 rfl) ?_
              refine lv_iconst (pc := 139) (v := zI 3) hx hb dL_isRight_139 rfl ?_
              refine lv_iload (pc := 140) hx hb dL_isRight_140 (lv_at hl 6 rfl) ?_
              refine zr_iadd (pc := 142) (d := 3 + ((q : Int))) hx hb dL_isRight_142 rfl ?_
              refine zr_vi (pc := 143) (As := [.int (zI ((k : Int))), .int (zI (3 + ((q : Int))))]) (rest := [.int (zI (ps g (k : Int) (q : Int) i))]) S (ct_X7_costume l D cI cT ad σ g hR hI tl tx rd rp ((k : Int)) (3 + ((q : Int))) (by omega) (by omega)) (cwV 2 hts gL_isRight_X7_costume rfl rfl rfl (by decide +kernel) ⟨Nat.le_of_ble_eq_true rfl, Nat.le_of_ble_eq_true rfl⟩) zs0 hK ⟨hP, hY⟩ (zr_recv hK hY.1 rfl) rfl hl.1 rfl (Nat.le_of_ble_eq_true rfl) dL_isRight_143 ⟨Nat.le_of_ble_eq_true rfl, Nat.le_of_ble_eq_true rfl⟩ (fun r_143 hr_143 => ?_)
              subst hr_143
              refine zr_top (b := gC g (k : Int) (q : Int)) (qCos_o (by omega) (by omega) (by omega) (by omega)) ?_
              refine lv_aload_n (pc := 146) hx hb dL_isRight_146 rfl (lv_at hl 0 rfl) ?_
              refine lv_iload (pc := 147) hx hb dL_isRight_147 (lv_at hl 5 rfl) ?_
              refine lv_bipush (pc := 149) (v := zI 6) hx hb dL_isRight_149 zc_bipush_6 ?_
              refine zr_vi (pc := 151) (As := [.int (zI ((k : Int))), .int (zI (6))]) (rest := [.int (zI (gC g (k : Int) (q : Int))), .int (zI (ps g (k : Int) (q : Int) i))]) S (ct_X7_costume l D cI cT ad σ g hR hI tl tx rd rp ((k : Int)) 6 (by omega) (by decide)) (cwV 2 hts gL_isRight_X7_costume rfl rfl rfl (by decide +kernel) ⟨Nat.le_of_ble_eq_true rfl, Nat.le_of_ble_eq_true rfl⟩) zs0 hK ⟨hP, hY⟩ (zr_recv hK hY.1 rfl) rfl hl.1 rfl (Nat.le_of_ble_eq_true rfl) dL_isRight_151 ⟨Nat.le_of_ble_eq_true rfl, Nat.le_of_ble_eq_true rfl⟩ (fun r_151 hr_151 => ?_)
              subst hr_151
              refine zr_top (b := gC g ((k : Int)) 3) (qCos_c (by omega) (by omega) (by decide) (by decide) (by decide)) ?_
              refine zr_iadd (pc := 154) (d := (gC g (k : Int) (q : Int)) + (gC g ((k : Int)) 3)) hx hb dL_isRight_154 rfl ?_
              refine zr_icmp_le (pc := 155) (tgt := 160) hx hb dL_isRight_155 (by decide) (by omega) (by omega) (fun c_155 => ?_) (fun c_155 => ?_)
              · refine zr_iinc (pc := 160) (d := ((q : Int)) + 1) (lv' := [(6, .int (zI (((q : Int)) + 1))), (0, .ref (ad 120)), (1, .int (zI (g 0))), (2, .int (zI (awS g 0))), (3, .int (zI (0))), (4, .int (zI (0))), (5, .int (zI ((k : Int)))), (7, .int (zI (ps g (k : Int) (q : Int) i))), (8, .int (zI ((i : Int))))]) hx hb dL_isRight_160 hl (k := 6) rfl rfl (by decide) rfl (fun ls hl => ?_)
                refine lv_goto (pc := 163) (tgt := 25) hx hb dL_isRight_163 (by decide) ?_
                exact ih_25 (q + 1) (by omega) (by omega) ls (lv_sub hl [1, 2, 3, 4, 5, 6, 0] rfl)
              · exact absurd c_155 (by omega)
