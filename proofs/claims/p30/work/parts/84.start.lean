/-! the law's start -/
theorem gOK_00 : gOK g00 0 (fun _ => g00) 0 (fun _ => 0) := ⟨inv_00, fun j hj => absurd hj (Nat.not_lt_zero _), by decide, by decide, fun i i0 i1 => absurd i1 (by omega)⟩
theorem g00_0 : g00 0 = 0 := by decide
theorem g00_1 : g00 1 = 0 := by decide
theorem g00_2 : g00 2 = 0 := by decide
theorem g00_5 : g00 5 = 0 := by decide
theorem SI_00 : SI g00 := by
  refine ⟨inv_00, fun c m j c0 c1 m0 m1 hj => ?_, ?_, fun i h i0 i1 h1 => ?_⟩
  · rw [g00_0] at c1
    omega
  · unfold FE
    rw [g00_5, g00_2]
    rfl
  · rw [g00_2] at h1
    omega
set_option maxHeartbeats 4000000 in
theorem whole_start {p : Program} {e : Env} {s : State} {m : MethodId} {below : List Frame} {meth : Method} {c : Code} (l : Launch) (hflags : l.flags = flags0) {b L : Nat} {xs : Nat → Int32} (hL : L ≤ 260) (C0 : lw_At p s m meth c b L xs) : W p l e room_1 s m #[Value.ref b] below meth c s.heap [] 0 0 (lw_Z below #[Value.ref b] s) (entryFrame m ([Value.ref b] : List Value).toArray 12) := by
  obtain ⟨hx, hb, hr, hml, hown, hts, hX, hbl, hlocks, hgv⟩ := C0
  have hsg := flat_of_before _ hgv
  have S : CallFix p m c cL_law 12 s #[Value.ref b] wsL_law RL := ⟨hx, hb, hml, hown, fun w h => hts w (wsL_law_in w h)⟩
  have hownL : s.vm.findClass RL = some m.cls := hown
  obtain ⟨D, cI, cT, hK⟩ := lw_zK hts
  have hT : zT s.heap.size s s.heap := ⟨lw_tP hts hsg, lw_tD hts hsg, lw_tC hts hsg⟩
  have hSt := lw_zSt hts hsg
  have hAO : va_AO "CostumeStock$State" s := va_AO.of (hts (.arrayOver (.object "CostumeStock$State")) (by decide +kernel))
  have hLn : (L : Int) ≤ 260 := by omega
  obtain ⟨a, ha⟩ : ∃ a : Nat, s.heap.size = a := ⟨_, rfl⟩
  have hS : va_S (fun q => s.heap.size ≤ q) s.heap s.heap [] := va_S.rf
  have hl := lv_entry ([.ref b]) (n := 12) (Nat.le_of_ble_eq_true rfl)
  rw [lg_entry_eq]
  generalize (lg_sl ([.ref b]) ++ List.replicate (12 - (lg_sl ([.ref b])).length) Slot.unset).toArray = ls at hl ⊢
  have hl : lv_has ls 12 [(0, .ref b)] := hl
  refine zr_new (pc := 0) (ci := 7) hx hb hts (fun w h => inX7 w h) tyX7 tyX7_ok hownL (hts (.classLink RL 13 RX7) (by decide +kernel)) (hts (.instantiable RX7 4) (by decide +kernel)) (hts (.initialized RX7) (by decide +kernel)) hK hS rfl [.null, .null, .null, .null] (fun j hj => by rcases (show j = 0 ∨ j = 1 ∨ j = 2 ∨ j = 3 by omega) with rfl | rfl | rfl | rfl <;> rfl) (Nat.le_of_ble_eq_true rfl) (Nat.le_of_ble_eq_true rfl) dL_law_0 ha (fun H hN hz hk hS => ?_)
  refine lv_dup (pc := 3) hx hb dL_law_3 rfl ?_
  refine zr_iI (pc := 4) (As := []) (rest := [.ref (a)]) (sz := a + 1) S (ct_X7_init l D cI cT (a) (a + 1) (by omega)) (cwI 0 S.2.2.2.2 gL_law_X7_init rfl rfl rfl (hts (.initialized RX7) (by decide +kernel)) (hts (.methodLink RL 91 yX7_init) (by decide +kernel)) (hts (.instanceMethod yX7_init) (by decide +kernel)) rfl (by decide +kernel) ⟨(Nat.le_of_ble_eq_true rfl), (Nat.le_of_ble_eq_true rfl)⟩) zs_AO hK ⟨hN, hAO⟩ hz hS (fun q z => by show s.heap.size ≤ q; rcases z with z | z <;> omega) rfl hl.1 rfl (Nat.le_of_ble_eq_true rfl) dL_law_4 ⟨(Nat.le_of_ble_eq_true rfl), (Nat.le_of_ble_eq_true rfl)⟩ (fun H locs hG2 hk2 hS => ?_)
  obtain ⟨hz7, hP, hH1, hH2, hQ, hY⟩ := hG2
  clear hz hk hk2 hN
  refine lv_astore_n (pc := 7) (lv' := [(1, .ref a), (0, .ref b)]) hx hb dL_law_7 rfl hl (by decide) rfl (fun ls hl => ?_)
  have hW : cW D cI cT (adF a (a + 1)) σ00 (fun _ => σ00) 0 0 0 (fun _ => 0) (fun _ => 0) (fun _ => 0) H := ⟨hP, hH1, hH2, hQ, hY⟩
  clear hP hH1 hH2 hQ hY
  have hLP : zLP D cI cT (adF a (a + 1)) s g00 0 (fun _ => g00) H := ⟨SI_00, ⟨fun _ => 0, gOK_00, σ00, fun _ => σ00, 0, fun _ => 0, fun _ => 0, rel_00, fun j hj => absurd hj (Nat.not_lt_zero _), by decide, by decide, hW⟩, hT.kept (fun q h1 h2 => hS.2.1 q h1 (Nat.not_le.mpr h2)), hSt.kept (fun q h1 h2 => hS.2.1 q h1 h2)⟩
  have hJ : zJ (adF a (a + 1)) 127 := adF_J (by omega)
  have hB : ∀ k : Nat, k < 127 → s.heap.size ≤ adF a (a + 1) k := fun k _ => by rw [ha]; exact adF_ge (by omega) k
  have e120 : adF a (a + 1) 120 = a := if_pos rfl
  clear hW
  generalize adF a (a + 1) = ad at hJ hB hLP e120
  rw [← e120] at hl
  refine W.widen (k := 127) (n := 3856) (by omega) (by omega) ?_
  exact lw_body S hr hlocks hK hX hbl hLn hJ hB hS ⟨g00_0, g00_1⟩ hLP hl
