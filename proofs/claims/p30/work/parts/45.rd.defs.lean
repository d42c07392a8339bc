/-! the reference's reader: rows and pure steps -/
theorem zl_toI (a : Int) : (zL a).toInt32 = zI a := by
  first
    | exact Int64.toInt32_ofInt a
    | simp [zL, zI]
section ZRD
variable {p : Program} {l : Launch} {e : Env} {R : Room} {s : State} {m : MethodId} {args : Array Value} {below : List Frame} {meth : Method} {c : Code} {H : Heap} {locs : List Loc} {cells slots : Nat} {Q : State → Prop}
variable {cc : ByteArray} {pc : Nat} {ls : Array Slot} {rest : List Value}
theorem zr_topl {a b : Int} (h : a = b) (k : W p l e R s m args below meth c H locs cells slots Q (F0 m pc ls (.long (zL b) :: rest))) : W p l e R s m args below meth c H locs cells slots Q (F0 m pc ls (.long (zL a) :: rest)) := by
  rw [h]
  exact k
theorem zr_l2iw (hx : p.tables.exec = Jvm.exec) (hb : c.code = cc) {a : Int} (hdg : decode cc pc = .ok (.l2i, 1))
    (k : W p l e R s m args below meth c H locs cells slots Q (F0 m (pc + 1) ls (.int (zI a) :: rest))) : W p l e R s m args below meth c H locs cells slots Q (F0 m pc ls (.long (zL a) :: rest)) := lv_l2i hx hb hdg (zl_toI a) k
end ZRD
section RDD
variable {tx : Int → Int} {tl p q e v : Int} {i : Nat}
theorem hr_bd (htx : ∀ i : Int, 0 ≤ i → i < tl → 1 ≤ tx i ∧ tx i ≤ 255) (h : 0 ≤ q) : -1 ≤ lkc tx tl q ∧ lkc tx tl q ≤ 255 := by
  rcases hr_cases tx tl q with z | z
  · have := htx q h z.1
    omega
  · omega
theorem hr_let (h : 97 ≤ lkc tx tl q ∧ lkc tx tl q ≤ 122) : q < tl ∧ lkc tx tl q = tx q ∧ kd tx tl q = 1 := by
  rcases hr_cases tx tl q with z | z
  · exact ⟨z.1, z.2, kd_1 z.1 (by omega)⟩
  · omega
theorem hr_nlet (h : ¬ (97 ≤ lkc tx tl q ∧ lkc tx tl q ≤ 122)) : kd tx tl q ≠ 1 := by
  rcases kd_cases tx tl q with k | k | k | k <;> rcases hr_cases tx tl q with z | z <;> omega
theorem hr_dig (h : 48 ≤ lkc tx tl q ∧ lkc tx tl q ≤ 57) : q < tl ∧ lkc tx tl q = tx q ∧ kd tx tl q = 2 := by
  rcases hr_cases tx tl q with z | z
  · exact ⟨z.1, z.2, kd_2 z.1 (by omega) (by omega)⟩
  · omega
theorem hr_ndig (h : ¬ (48 ≤ lkc tx tl q ∧ lkc tx tl q ≤ 57)) : kd tx tl q ≠ 2 := by
  rcases kd_cases tx tl q with k | k | k | k <;> rcases hr_cases tx tl q with z | z <;> omega
theorem kd2_dig (h : kd tx tl q = 2) : 48 ≤ tx q ∧ tx q ≤ 57 := by
  rcases kd_cases tx tl q with k | k | k | k <;> omega
theorem read_w (hts : tS tx tl p = q) (h1 : 97 ≤ lkc tx tl q ∧ lkc tx tl q ≤ 122) (hl : ∀ x : Int, q ≤ x → x < q + (i : Int) → kd tx tl x = 1) (hx : ¬ (97 ≤ lkc tx tl (q + (i : Int)) ∧ lkc tx tl (q + (i : Int)) ≤ 122)) (hv : v = wv tx q i) : tE tx tl p = q + (i : Int) ∧ rK tx tl p = 0 ∧ rV tx tl p = v := by
  have a := hr_let h1
  have hk : tK tx tl p = 1 := (tok_k hts).trans a.2.2
  have hi : 1 ≤ (i : Int) := by
    rcases Nat.eq_zero_or_pos i with z | z
    · subst z
      rw [show q + ((0 : Nat) : Int) = q by omega] at hx
      exact absurd h1 hx
    · omega
  have e := tok_run (e := q + (i : Int)) hts hk (Or.inl rfl) (by omega) (hr_nlet hx) (fun x x0 x1 => hl x (by omega) x1)
  refine ⟨e, rK_1 hk, ?_⟩
  rw [rV_w hk, e, hts, show (q + (i : Int) - q).toNat = i by omega]
  exact hv.symm
theorem read_n (hts : tS tx tl p = q) (h1 : 48 ≤ lkc tx tl q ∧ lkc tx tl q ≤ 57) (hl : ∀ x : Int, q ≤ x → x < q + (i : Int) → kd tx tl x = 2) (hx : ¬ (48 ≤ lkc tx tl (q + (i : Int)) ∧ lkc tx tl (q + (i : Int)) ≤ 57)) (hv : v = wn tx q i) : tE tx tl p = q + (i : Int) ∧ (¬ (tx q = 48 ∧ q + (i : Int) ≠ q + 1) → rK tx tl p = 1) ∧ (tx q = 48 ∧ q + (i : Int) ≠ q + 1 → rK tx tl p = 3) ∧ rV tx tl p = v := by
  have a := hr_dig h1
  have hk : tK tx tl p = 2 := (tok_k hts).trans a.2.2
  have hi : 1 ≤ (i : Int) := by
    rcases Nat.eq_zero_or_pos i with z | z
    · subst z
      rw [show q + ((0 : Nat) : Int) = q by omega] at hx
      exact absurd h1 hx
    · omega
  have e := tok_run (e := q + (i : Int)) hts hk (Or.inr rfl) (by omega) (hr_ndig hx) (fun x x0 x1 => hl x (by omega) x1)
  have ez : tZ tx tl p ↔ (tx q = 48 ∧ q + (i : Int) ≠ q + 1) := by
    unfold tZ
    rw [e, hts]
    omega
  refine ⟨e, fun z => rK_2 hk (fun y => z (ez.mp y)), fun z => rK_2z hk (ez.mpr z), ?_⟩
  rw [rV_n hk, e, hts, show (q + (i : Int) - q).toNat = i by omega]
  exact hv.symm
theorem read_o {t : Int} (hts : tS tx tl p = q) (h1 : ¬ (97 ≤ lkc tx tl q ∧ lkc tx tl q ≤ 122)) (h2 : ¬ (48 ≤ lkc tx tl q ∧ lkc tx tl q ≤ 57)) (htx : q < tl → 1 ≤ tx q) (ht : (lkc tx tl q < 0 ∧ t = 4) ∨ (0 ≤ lkc tx tl q ∧ lkc tx tl q = 59 ∧ t = 2) ∨ (0 ≤ lkc tx tl q ∧ lkc tx tl q ≠ 59 ∧ t = 3)) : (0 ≤ lkc tx tl q → tE tx tl p = q + 1) ∧ (lkc tx tl q < 0 → tE tx tl p = q) ∧ rK tx tl p = t ∧ rV tx tl p = 0 := by
  rcases hr_cases tx tl q with z | z
  · have k3 : kd tx tl q = 3 := by
      rcases kd_cases tx tl q with k | k | k | k <;> omega
    have h3 := tok_3 hts k3
    have h4 := htx z.1
    refine ⟨fun _ => h3.2, fun y => by omega, ?_, rV_o (by omega) (by omega)⟩
    rcases ht with y | y | y
    · omega
    · rw [y.2.2]; exact rK_3e h3.1 (by rw [hts]; omega)
    · rw [y.2.2]; exact rK_3 h3.1 (by rw [hts]; omega)
  · have h3 := tok_0 hts z.1
    refine ⟨fun y => by omega, fun _ => h3.2, ?_, rV_o (by omega) (by omega)⟩
    rcases ht with y | y | y
    · rw [y.2]; exact rK_0 h3.1
    · omega
    · omega
end RDD
/-! an item's steps in the reference: w tells if something was wrong, q whose token is looked at -/
def Ph (tx : Int → Int) (tl : Int) (g : Int → Int) (p : Int) (k : Nat) (q w : Int) : Prop := (w = 0 ∧ hdO tx tl g p ∧ (∀ j : Nat, 1 ≤ j → j < k → okN tx tl p j) ∧ q = tP tx tl p k) ∨ (w = 1 ∧ itB tx tl g p (tS tx tl q))
def PhE (tx : Int → Int) (tl : Int) (g : Int → Int) (p q w : Int) : Prop := (w = 0 ∧ hdO tx tl g p ∧ (∀ j : Nat, 1 ≤ j → j ≤ nN tx tl p → okN tx tl p j) ∧ q = pE tx tl p) ∨ (w = 1 ∧ itB tx tl g p (tS tx tl q))
section PHS
variable {tx : Int → Int} {tl p q w q' w' v bb : Int} {g : Int → Int} {k : Nat}
theorem tk_b (h0 : 0 ≤ q) (h1 : q ≤ tl) (hc : (w = 0 ∧ bb = 1 ∧ w' = 0 ∧ q' = tE tx tl q) ∨ (¬ (w = 0 ∧ bb = 1) ∧ w' = 1 ∧ q' = q)) : (w' = 0 ∨ w' = 1) ∧ (0 ≤ q' ∧ q' ≤ tl) ∧ (w' = 0 → w = 0 ∧ bb = 1) := by
  have hb := tE_bd (tx := tx) h0 h1
  rcases hc with ⟨a, b, c, d⟩ | ⟨a, b, c⟩
  · exact ⟨Or.inl c, by omega, fun _ => ⟨a, b⟩⟩
  · exact ⟨Or.inr b, by omega, fun z => by omega⟩
theorem ph_h (hc : ((0 : Int) = 0 ∧ bb = 1 ∧ w' = 0 ∧ q' = tE tx tl p) ∨ (¬ ((0 : Int) = 0 ∧ bb = 1) ∧ w' = 1 ∧ q' = p)) (hb : (bb = 1 ∧ hdO tx tl g p) ∨ (bb = 0 ∧ ¬ hdO tx tl g p)) : Ph tx tl g p 1 q' w' := by
  rcases hc with ⟨a, b, c, d⟩ | ⟨a, b, c⟩
  · rcases hb with ⟨x, y⟩ | ⟨x, y⟩
    · exact Or.inl ⟨c, y, fun j j0 j1 => absurd j1 (by omega), d⟩
    · omega
  · rcases hb with ⟨x, y⟩ | ⟨x, y⟩
    · exact absurd ⟨rfl, x⟩ a
    · exact Or.inr ⟨b, Or.inl ⟨y, by rw [c]⟩⟩
theorem ph_n (h : Ph tx tl g p k q w) (h0 : 0 ≤ q) (h1 : q ≤ tl) (k1 : 1 ≤ k) (kn : k ≤ nN tx tl p) (hc : (w = 0 ∧ tN tx tl q (loN (k : Int)) (hiN (k : Int)) ∧ w' = 0 ∧ q' = tE tx tl q ∧ v = tV tx tl q) ∨ (¬ (w = 0 ∧ tN tx tl q (loN (k : Int)) (hiN (k : Int))) ∧ w' = 1 ∧ q' = q)) : Ph tx tl g p (k + 1) q' w' ∧ (w' = 0 → v = vN tx tl p k) ∧ (w' = 0 ∨ w' = 1) ∧ (0 ≤ q' ∧ q' ≤ tl) ∧ (w' = 0 → w = 0) := by
  have hb := tE_bd (tx := tx) h0 h1
  rcases h with ⟨a, b, c, d⟩ | ⟨a, b⟩ <;> rcases hc with ⟨e, f, i, j, y⟩ | ⟨e, f, i⟩
  · refine ⟨Or.inl ⟨i, b, fun z z0 z1 => ?_, by rw [j, d, tP_s]⟩, fun _ => by rw [y, d]; rfl, Or.inl i, by omega, fun _ => a⟩
    rcases Nat.lt_or_ge z k with u | u
    · exact c z z0 u
    · have ez : z = k := by omega
      subst ez
      rw [d] at f
      exact f
  · refine ⟨Or.inr ⟨f, Or.inr (Or.inl ⟨b, k, k1, kn, c, fun z => e ⟨a, by rw [d]; exact z⟩, by rw [i, d]⟩)⟩, fun z => by omega, Or.inr f, by omega, fun z => by omega⟩
  · omega
  · exact ⟨Or.inr ⟨f, by rw [i]; exact b⟩, fun z => by omega, Or.inr f, by omega, fun z => by omega⟩
theorem ph_d1 (h : Ph tx tl g p (nN tx tl p + 1) q w) (hC : tW tx tl p wdC) (hD : tW tx tl q wdD) (hc : (w = 0 ∧ (1 : Int) = 1 ∧ w' = 0 ∧ q' = tE tx tl q) ∨ (¬ (w = 0 ∧ (1 : Int) = 1) ∧ w' = 1 ∧ q' = q)) : PhE tx tl g p q' w' ∧ (w' = 0 → dK tx tl p) := by
  rcases h with ⟨a, b, c, d⟩ | ⟨a, b⟩ <;> rcases hc with ⟨e, f, i, j⟩ | ⟨e, f, i⟩
  · have hK : dK tx tl p := ⟨hC, by show tW tx tl (tP tx tl p (nN tx tl p + 1)) wdD; rw [← d]; exact hD⟩
    refine ⟨Or.inl ⟨i, b, fun z z0 z1 => c z z0 (by omega), ?_⟩, fun _ => hK⟩
    unfold pE
    rw [tif_t hK, j, d]
    rfl
  · exact absurd ⟨a, rfl⟩ e
  · omega
  · exact ⟨Or.inr ⟨f, by rw [i]; exact b⟩, fun z => by omega⟩
theorem ph_d0 (h : Ph tx tl g p (nN tx tl p + 1) q w) (hD : tW tx tl p wdC → ¬ tW tx tl q wdD) : PhE tx tl g p q w ∧ (w = 0 → ¬ dK tx tl p) := by
  rcases h with ⟨a, b, c, d⟩ | ⟨a, b⟩
  · have hK : ¬ dK tx tl p := fun z => hD z.1 (by rw [d]; exact z.2)
    refine ⟨Or.inl ⟨a, b, fun z z0 z1 => c z z0 (by omega), ?_⟩, fun _ => hK⟩
    unfold pE
    rw [tif_f hK, d]
    rfl
  · exact ⟨Or.inr ⟨a, b⟩, fun z => by omega⟩
theorem ph_e (h : PhE tx tl g p q w) (hb : (bb = 1 ∧ tF tx tl q) ∨ (bb = 0 ∧ ¬ tF tx tl q)) (hc : (w = 0 ∧ bb = 1 ∧ w' = 0 ∧ q' = tE tx tl q) ∨ (¬ (w = 0 ∧ bb = 1) ∧ w' = 1 ∧ q' = q)) : (w' = 0 ∧ itO tx tl g p ∧ q' = itN tx tl p) ∨ (w' = 1 ∧ itB tx tl g p (tS tx tl q')) := by
  rcases h with ⟨a, b, c, d⟩ | ⟨a, b⟩ <;> rcases hc with ⟨e, f, i, j⟩ | ⟨e, f, i⟩
  · rcases hb with ⟨x, y⟩ | ⟨x, y⟩
    · refine Or.inl ⟨i, ⟨b, c, by rw [← d]; exact y⟩, ?_⟩
      rw [j, d]
      rfl
    · omega
  · rcases hb with ⟨x, y⟩ | ⟨x, y⟩
    · exact absurd ⟨a, x⟩ e
    · exact Or.inr ⟨f, Or.inr (Or.inr ⟨b, c, by rw [← d]; exact y, by rw [i, d]⟩)⟩
  · omega
  · exact Or.inr ⟨f, by rw [i]; exact b⟩
theorem itO_c (h : itO tx tl g p) (hC : tW tx tl p wdC) : g 0 < 16 := by
  rcases h.1 with z | z
  · exact z.2
  · exact (tW_ca hC z.1).elim
theorem itO_a (h : itO tx tl g p) (hC : ¬ tW tx tl p wdC) : g 1 < 8 := by
  rcases h.1 with z | z
  · exact absurd z.1 hC
  · exact z.2
end PHS
