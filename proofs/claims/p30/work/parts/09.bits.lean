/-! bitCount of a set of sixteen -/
def bcE (x : Int32) : Int32 :=
  let x1 := x - ((x.toUInt32 >>> ((1 : Int32).toUInt32 &&& Int32.toUInt32 31)).toInt32 &&& 1431655765)
  let x2 := (x1 &&& 858993459) + ((x1.toUInt32 >>> ((2 : Int32).toUInt32 &&& Int32.toUInt32 31)).toInt32 &&& 858993459)
  let x3 := (x2 + (x2.toUInt32 >>> ((4 : Int32).toUInt32 &&& Int32.toUInt32 31)).toInt32) &&& 252645135
  let x4 := x3 + (x3.toUInt32 >>> ((8 : Int32).toUInt32 &&& Int32.toUInt32 31)).toInt32
  let x5 := x4 + (x4.toUInt32 >>> ((16 : Int32).toUInt32 &&& Int32.toUInt32 31)).toInt32
  x5 &&& 63
def pcN (n : Nat) : Nat → Nat
  | 0 => 0
  | m + 1 => pcN n m + n / 2 ^ m % 2
def bcN (n : Nat) : Nat :=
  let x1 := n - ((n / 2) &&& 1431655765)
  let x2 := (x1 &&& 858993459) + ((x1 / 4) &&& 858993459)
  let x3 := (x2 + x2 / 16) &&& 252645135
  let x4 := x3 + x3 / 256
  let x5 := x4 + x4 / 65536
  x5 &&& 63
theorem bcN_0 : ∀ a : Fin 16, ∀ b : Fin 256, bcN ((0 + a.val) * 256 + b.val) = pcN ((0 + a.val) * 256 + b.val) 16 := by decide +kernel
theorem bcN_1 : ∀ a : Fin 16, ∀ b : Fin 256, bcN ((16 + a.val) * 256 + b.val) = pcN ((16 + a.val) * 256 + b.val) 16 := by decide +kernel
theorem bcN_2 : ∀ a : Fin 16, ∀ b : Fin 256, bcN ((32 + a.val) * 256 + b.val) = pcN ((32 + a.val) * 256 + b.val) 16 := by decide +kernel
theorem bcN_3 : ∀ a : Fin 16, ∀ b : Fin 256, bcN ((48 + a.val) * 256 + b.val) = pcN ((48 + a.val) * 256 + b.val) 16 := by decide +kernel
theorem bcN_4 : ∀ a : Fin 16, ∀ b : Fin 256, bcN ((64 + a.val) * 256 + b.val) = pcN ((64 + a.val) * 256 + b.val) 16 := by decide +kernel
theorem bcN_5 : ∀ a : Fin 16, ∀ b : Fin 256, bcN ((80 + a.val) * 256 + b.val) = pcN ((80 + a.val) * 256 + b.val) 16 := by decide +kernel
theorem bcN_6 : ∀ a : Fin 16, ∀ b : Fin 256, bcN ((96 + a.val) * 256 + b.val) = pcN ((96 + a.val) * 256 + b.val) 16 := by decide +kernel
theorem bcN_7 : ∀ a : Fin 16, ∀ b : Fin 256, bcN ((112 + a.val) * 256 + b.val) = pcN ((112 + a.val) * 256 + b.val) 16 := by decide +kernel
theorem bcN_8 : ∀ a : Fin 16, ∀ b : Fin 256, bcN ((128 + a.val) * 256 + b.val) = pcN ((128 + a.val) * 256 + b.val) 16 := by decide +kernel
theorem bcN_9 : ∀ a : Fin 16, ∀ b : Fin 256, bcN ((144 + a.val) * 256 + b.val) = pcN ((144 + a.val) * 256 + b.val) 16 := by decide +kernel
theorem bcN_10 : ∀ a : Fin 16, ∀ b : Fin 256, bcN ((160 + a.val) * 256 + b.val) = pcN ((160 + a.val) * 256 + b.val) 16 := by decide +kernel
theorem bcN_11 : ∀ a : Fin 16, ∀ b : Fin 256, bcN ((176 + a.val) * 256 + b.val) = pcN ((176 + a.val) * 256 + b.val) 16 := by decide +kernel
theorem bcN_12 : ∀ a : Fin 16, ∀ b : Fin 256, bcN ((192 + a.val) * 256 + b.val) = pcN ((192 + a.val) * 256 + b.val) 16 := by decide +kernel
theorem bcN_13 : ∀ a : Fin 16, ∀ b : Fin 256, bcN ((208 + a.val) * 256 + b.val) = pcN ((208 + a.val) * 256 + b.val) 16 := by decide +kernel
theorem bcN_14 : ∀ a : Fin 16, ∀ b : Fin 256, bcN ((224 + a.val) * 256 + b.val) = pcN ((224 + a.val) * 256 + b.val) 16 := by decide +kernel
theorem bcN_15 : ∀ a : Fin 16, ∀ b : Fin 256, bcN ((240 + a.val) * 256 + b.val) = pcN ((240 + a.val) * 256 + b.val) 16 := by decide +kernel
theorem bcN_ok {n : Nat} (h : n < 65536) : bcN n = pcN n 16 := by
  have key : ∀ k : Nat, k ≤ 15 → (∀ a : Fin 16, ∀ b : Fin 256, bcN ((16 * k + a.val) * 256 + b.val) = pcN ((16 * k + a.val) * 256 + b.val) 16) → n / 4096 = k → bcN n = pcN n 16 := by
    intro k hk hh e
    have h := hh ⟨n / 256 - 16 * k, by omega⟩ ⟨n % 256, by omega⟩
    have e : (16 * k + (n / 256 - 16 * k)) * 256 + n % 256 = n := by omega
    simp only [e] at h
    exact h
  rcases (show n / 4096 = 0 ∨ n / 4096 = 1 ∨ n / 4096 = 2 ∨ n / 4096 = 3 ∨ n / 4096 = 4 ∨ n / 4096 = 5 ∨ n / 4096 = 6 ∨ n / 4096 = 7 ∨ n / 4096 = 8 ∨ n / 4096 = 9 ∨ n / 4096 = 10 ∨ n / 4096 = 11 ∨ n / 4096 = 12 ∨ n / 4096 = 13 ∨ n / 4096 = 14 ∨ n / 4096 = 15 by omega) with q | q | q | q | q | q | q | q | q | q | q | q | q | q | q | q
  · exact key 0 (by omega) bcN_0 q
  · exact key 1 (by omega) bcN_1 q
  · exact key 2 (by omega) bcN_2 q
  · exact key 3 (by omega) bcN_3 q
  · exact key 4 (by omega) bcN_4 q
  · exact key 5 (by omega) bcN_5 q
  · exact key 6 (by omega) bcN_6 q
  · exact key 7 (by omega) bcN_7 q
  · exact key 8 (by omega) bcN_8 q
  · exact key 9 (by omega) bcN_9 q
  · exact key 10 (by omega) bcN_10 q
  · exact key 11 (by omega) bcN_11 q
  · exact key 12 (by omega) bcN_12 q
  · exact key 13 (by omega) bcN_13 q
  · exact key 14 (by omega) bcN_14 q
  · exact key 15 (by omega) bcN_15 q
theorem cnb_pc (n m : Nat) : cnb (n : Int) m = ((pcN n m : Nat) : Int) := by
  induction m with
  | zero => rfl
  | succ m ih =>
    have e : cnb (n : Int) (m + 1) = cnb (n : Int) m + ti (bit (n : Int) (m : Int)) := rfl
    rw [e, ih]
    show _ = ((pcN n m + n / 2 ^ m % 2 : Nat) : Int)
    have h2 : (n : Int) / pw (m : Int) % 2 = ((n / 2 ^ m % 2 : Nat) : Int) := by rw [pw_nat]; rfl
    have h3 : n / 2 ^ m % 2 = 0 ∨ n / 2 ^ m % 2 = 1 := by omega
    rcases h3 with h3 | h3
    · rw [h3] at h2 ⊢
      rw [ti_f (fun q => by unfold bit at q; rw [h2] at q; exact absurd q (by decide))]
      omega
    · rw [h3] at h2 ⊢
      rw [ti_t (show bit (n : Int) (m : Int) from h2)]
      omega
theorem nx_a (a b : Nat) : nI a &&& nI b = nI (a &&& b) := by
  show Int32.ofNat a &&& Int32.ofNat b = Int32.ofNat (a &&& b)
  first | exact (Int32.ofNat_and _ _).symm | (apply Int32.toBitVec_inj.mp; simp)
theorem bcE_nI {n : Nat} (h : n < 65536) : bcE (nI n) = nI (bcN n) := by
  have c1 : (1431655765 : Int32) = nI 1431655765 := rfl
  have c2 : (858993459 : Int32) = nI 858993459 := rfl
  have c3 : (252645135 : Int32) = nI 252645135 := rfl
  have c4 : (63 : Int32) = nI 63 := rfl
  have s1 : ∀ {k : Nat}, k < 2 ^ 32 → ((nI k).toUInt32 >>> ((1 : Int32).toUInt32 &&& Int32.toUInt32 31)).toInt32 = nI (k / 2) := fun hk => pk_ushrN hk 1 1 (by decide)
  have s2 : ∀ {k : Nat}, k < 2 ^ 32 → ((nI k).toUInt32 >>> ((2 : Int32).toUInt32 &&& Int32.toUInt32 31)).toInt32 = nI (k / 4) := fun hk => pk_ushrN hk 2 2 (by decide)
  have s4 : ∀ {k : Nat}, k < 2 ^ 32 → ((nI k).toUInt32 >>> ((4 : Int32).toUInt32 &&& Int32.toUInt32 31)).toInt32 = nI (k / 16) := fun hk => pk_ushrN hk 4 4 (by decide)
  have s8 : ∀ {k : Nat}, k < 2 ^ 32 → ((nI k).toUInt32 >>> ((8 : Int32).toUInt32 &&& Int32.toUInt32 31)).toInt32 = nI (k / 256) := fun hk => pk_ushrN hk 8 8 (by decide)
  have s16 : ∀ {k : Nat}, k < 2 ^ 32 → ((nI k).toUInt32 >>> ((16 : Int32).toUInt32 &&& Int32.toUInt32 31)).toInt32 = nI (k / 65536) := fun hk => pk_ushrN hk 16 16 (by decide)
  have l1 : (n / 2) &&& 1431655765 ≤ n / 2 := Nat.and_le_left
  generalize e1 : n - ((n / 2) &&& 1431655765) = x1
  have b1 : x1 < 65536 := by omega
  have l2 : x1 &&& 858993459 ≤ x1 := Nat.and_le_left
  have l3 : (x1 / 4) &&& 858993459 ≤ x1 / 4 := Nat.and_le_left
  generalize e2 : (x1 &&& 858993459) + ((x1 / 4) &&& 858993459) = x2
  have b2 : x2 < 131072 := by omega
  have l4 : (x2 + x2 / 16) &&& 252645135 ≤ x2 + x2 / 16 := Nat.and_le_left
  generalize e3 : (x2 + x2 / 16) &&& 252645135 = x3
  have b3 : x3 < 262144 := by omega
  unfold bcE bcN
  simp only [c1, c2, c3, c4]
  rw [s1 (by omega), nx_a, pk_sub (by omega), e1, s2 (by omega), nx_a, nx_a, nI_add, e2, s4 (by omega), nI_add, nx_a, e3, s8 (by omega), nI_add, s16 (by omega), nI_add, nx_a]
theorem bcE_ok {n : Int} (h0 : 0 ≤ n) (h1 : n < 65536) : bcE (zI n) = zI (cnb n 16) := by
  have h := bcN_ok (n := n.toNat) (by omega)
  have e2 : n = ((n.toNat : Nat) : Int) := by omega
  rw [zi_nI h0, bcE_nI (by omega), h, e2, cnb_pc, zi_nat]
  rfl
set_option maxHeartbeats 4000000 in
set_option maxRecDepth 100000 in
theorem ct_J6_bitCount_0f7a4 (l : Launch) (D : va_G) (cI cT : ClassId) (n : Int) (h0 : 0 ≤ n) (h1 : n < 65536) : zMr l yJ6_bitCount_0f7a4 wsJ6_bitCount_0f7a4 ({ frames := 0, cells := 0, slots := 0, locals := 0 }) D cI cT [.int (zI n)] (fun _ _ => True) (fun r => r = zI (cnb n 16)) := by
  refine Met.ofW (cc := cJ6_bitCount_0f7a4) (maxL := 1) (ret := (some .int)) (by decide) rfl ?_
  intro p_ e_ s m_ args below meth c_ s₁ B hml hv
  obtain ⟨rfl, hK, hF⟩ := hv
  have hx := B.exec
  have hb := B.bytes
  have hr := B.returns
  have hts := atoms_spec (ws := wsJ6_bitCount_0f7a4) B.pre
  have hown : s.vm.findClass RJ6 = some m_.cls := findClass_of_methodNamed B.named
  have hlocks := B.notSynchronized
  have hl := lv_entry ([.int (zI n)]) (n := 1) (Nat.le_of_ble_eq_true rfl)
  rw [lg_entry_eq]
  generalize (lg_sl ([.int (zI n)]) ++ List.replicate (1 - (lg_sl ([.int (zI n)])).length) Slot.unset).toArray = ls at hl ⊢
  have hl : lv_has ls 1 [(0, .int (zI n))] := hl
  refine lv_iload_n (pc := 0) hx hb dJ6_bitCount_0f7a4_0 rfl (lv_at hl 0 rfl) ?_
  refine lv_iload_n (pc := 1) hx hb dJ6_bitCount_0f7a4_1 rfl (lv_at hl 0 rfl) ?_
  refine lv_iconst (pc := 2) (v := 1) hx hb dJ6_bitCount_0f7a4_2 rfl ?_
  refine lv_iushr (pc := 3) hx hb dJ6_bitCount_0f7a4_3 rfl ?_
  refine lv_ldcw (pc := 4) (v := 1431655765) hx hb hown (hts _ (List.mem_of_getElem? (i := 1) rfl)) dJ6_bitCount_0f7a4_4 ?_
  refine lv_iand (pc := 7) hx hb dJ6_bitCount_0f7a4_7 ?_
  refine lv_isub (pc := 8) hx hb dJ6_bitCount_0f7a4_8 ?_
  refine lv_topi (fun x1 e1 => ?_)
  refine lv_istore_n (pc := 9) (lv' := [(0, .int x1)]) hx hb dJ6_bitCount_0f7a4_9 rfl hl (by decide) rfl (fun ls hl => ?_)
  refine lv_iload_n (pc := 10) hx hb dJ6_bitCount_0f7a4_10 rfl (lv_at hl 0 rfl) ?_
  refine lv_ldcw (pc := 11) (v := 858993459) hx hb hown (hts _ (List.mem_of_getElem? (i := 2) rfl)) dJ6_bitCount_0f7a4_11 ?_
  refine lv_iand (pc := 14) hx hb dJ6_bitCount_0f7a4_14 ?_
  refine lv_iload_n (pc := 15) hx hb dJ6_bitCount_0f7a4_15 rfl (lv_at hl 0 rfl) ?_
  refine lv_iconst (pc := 16) (v := 2) hx hb dJ6_bitCount_0f7a4_16 rfl ?_
  refine lv_iushr (pc := 17) hx hb dJ6_bitCount_0f7a4_17 rfl ?_
  refine lv_ldcw (pc := 18) (v := 858993459) hx hb hown (hts _ (List.mem_of_getElem? (i := 2) rfl)) dJ6_bitCount_0f7a4_18 ?_
  refine lv_iand (pc := 21) hx hb dJ6_bitCount_0f7a4_21 ?_
  refine lv_iadd (pc := 22) hx hb dJ6_bitCount_0f7a4_22 ?_
  refine lv_topi (fun x2 e2 => ?_)
  refine lv_istore_n (pc := 23) (lv' := [(0, .int x2)]) hx hb dJ6_bitCount_0f7a4_23 rfl hl (by decide) rfl (fun ls hl => ?_)
  refine lv_iload_n (pc := 24) hx hb dJ6_bitCount_0f7a4_24 rfl (lv_at hl 0 rfl) ?_
  refine lv_iload_n (pc := 25) hx hb dJ6_bitCount_0f7a4_25 rfl (lv_at hl 0 rfl) ?_
  refine lv_iconst (pc := 26) (v := 4) hx hb dJ6_bitCount_0f7a4_26 rfl ?_
  refine lv_iushr (pc := 27) hx hb dJ6_bitCount_0f7a4_27 rfl ?_
  refine lv_iadd (pc := 28) hx hb dJ6_bitCount_0f7a4_28 ?_
  refine lv_ldcw (pc := 29) (v := 252645135) hx hb hown (hts _ (List.mem_of_getElem? (i := 3) rfl)) dJ6_bitCount_0f7a4_29 ?_
  refine lv_iand (pc := 32) hx hb dJ6_bitCount_0f7a4_32 ?_
  refine lv_topi (fun x3 e3 => ?_)
  refine lv_istore_n (pc := 33) (lv' := [(0, .int x3)]) hx hb dJ6_bitCount_0f7a4_33 rfl hl (by decide) rfl (fun ls hl => ?_)
  refine lv_iload_n (pc := 34) hx hb dJ6_bitCount_0f7a4_34 rfl (lv_at hl 0 rfl) ?_
  refine lv_iload_n (pc := 35) hx hb dJ6_bitCount_0f7a4_35 rfl (lv_at hl 0 rfl) ?_
  refine lv_bipush (pc := 36) (v := 8) hx hb dJ6_bitCount_0f7a4_36 (by decide +kernel) ?_
  refine lv_iushr (pc := 38) hx hb dJ6_bitCount_0f7a4_38 rfl ?_
  refine lv_iadd (pc := 39) hx hb dJ6_bitCount_0f7a4_39 ?_
  refine lv_topi (fun x4 e4 => ?_)
  refine lv_istore_n (pc := 40) (lv' := [(0, .int x4)]) hx hb dJ6_bitCount_0f7a4_40 rfl hl (by decide) rfl (fun ls hl => ?_)
  refine lv_iload_n (pc := 41) hx hb dJ6_bitCount_0f7a4_41 rfl (lv_at hl 0 rfl) ?_
  refine lv_iload_n (pc := 42) hx hb dJ6_bitCount_0f7a4_42 rfl (lv_at hl 0 rfl) ?_
  refine lv_bipush (pc := 43) (v := 16) hx hb dJ6_bitCount_0f7a4_43 (by decide +kernel) ?_
  refine lv_iushr (pc := 45) hx hb dJ6_bitCount_0f7a4_45 rfl ?_
  refine lv_iadd (pc := 46) hx hb dJ6_bitCount_0f7a4_46 ?_
  refine lv_topi (fun x5 e5 => ?_)
  refine lv_istore_n (pc := 47) (lv' := [(0, .int x5)]) hx hb dJ6_bitCount_0f7a4_47 rfl hl (by decide) rfl (fun ls hl => ?_)
  refine lv_iload_n (pc := 48) hx hb dJ6_bitCount_0f7a4_48 rfl (lv_at hl 0 rfl) ?_
  refine lv_bipush (pc := 49) (v := 63) hx hb dJ6_bitCount_0f7a4_49 (by decide +kernel) ?_
  refine lv_iand (pc := 51) hx hb dJ6_bitCount_0f7a4_51 ?_
  exact W.iret hx hb hr (fun t ht hW => ⟨_, rfl, by rw [e5, e4, e3, e2, e1]; exact bcE_ok h0 h1, ht⟩) (fun _ h => by cases h) dJ6_bitCount_0f7a4_52
