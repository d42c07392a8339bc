/-! the class's three tables, that nobody writes: below the address bs -/
def tbP : Int → Int := fun i => if i = 0 then 7 else if i = 1 then 14 else if i = 2 then 12 else 8
def tbD : Int → Int := fun i => if i = 0 then 5 else if i = 1 then 3 else if i = 2 then 2 else 4
def tbC : Int → Int := fun i => if i = 0 then 8 else if i = 1 then 6 else if i = 2 then 10 else 15
def zT1 (n : String) (f : Int → Int) (k bs : Nat) (U : State) (H : Heap) : Prop := ∃ t : Nat, va_Z "CostumeStock" n "[I" (.ref t) (fun q => bs ≤ q) U H ∧ t < bs ∧ zAr k f t U H
def zT (bs : Nat) (U : State) (H : Heap) : Prop := zT1 "PROGRAMS_OF_CODE" tbP 4 bs U H ∧ zT1 "DIRT_OUT_OF_PROGRAM" tbD 4 bs U H ∧ zT1 "COST_OF_PROGRAM" tbC 4 bs U H
theorem zT1.moved {n : String} {f : Int → Int} {k bs : Nat} {u U : State} {H : Heap} (hvm : u.vm.Alike U.vm) (h : zT1 n f k bs u H) : zT1 n f k bs U H := by
  obtain ⟨t, h1, h2, h3⟩ := h
  exact ⟨t, h1.moved hvm, h2, h3.moved hvm⟩
theorem zT.moved {bs : Nat} {u U : State} {H : Heap} (hvm : u.vm.Alike U.vm) (h : zT bs u H) : zT bs U H := ⟨h.1.moved hvm, h.2.1.moved hvm, h.2.2.moved hvm⟩
theorem zAr.kept {n : Nat} {g : Int → Int} {a : Nat} {U : State} {H H1 : Heap} (h : zAr n g a U H) (e : H1[a]? = H[a]?) : zAr n g a U H1 := by
  obtain ⟨cell, h1, h2⟩ := h
  exact ⟨cell, by rw [e]; exact h1, h2⟩
theorem zAr.lt {n : Nat} {g : Int → Int} {a : Nat} {U : State} {H : Heap} (h : zAr n g a U H) : a < H.size := by
  obtain ⟨cell, h1, h2⟩ := h
  exact (Array.getElem?_eq_some_iff.mp h1).1
theorem zT1.kept {n : String} {f : Int → Int} {k bs : Nat} {U : State} {H H1 : Heap} (h : zT1 n f k bs U H) (hk : ∀ q : Nat, q < H.size → q < bs → H1[q]? = H[q]?) : zT1 n f k bs U H1 := by
  obtain ⟨t, h1, h2, h3⟩ := h
  exact ⟨t, h1.kept (fun a ha hb => hk a ha (Nat.not_le.mp hb)), h2, h3.kept (hk t h3.lt h2)⟩
theorem zT.kept {bs : Nat} {U : State} {H H1 : Heap} (h : zT bs U H) (hk : ∀ q : Nat, q < H.size → q < bs → H1[q]? = H[q]?) : zT bs U H1 := ⟨h.1.kept hk, h.2.1.kept hk, h.2.2.kept hk⟩
theorem zs_T {bs : Nat} {G : Heap → Prop} : zStab (fun U H => G H ∧ zT bs U H) := fun _ _ _ hv h => ⟨h.1, h.2.moved hv⟩
theorem zT.of_le {bs bs' : Nat} {U : State} {H : Heap} (h : zT bs U H) (hb : bs ≤ bs') : zT bs' U H := by
  have one : ∀ {n : String} {f : Int → Int} {k : Nat}, zT1 n f k bs U H → zT1 n f k bs' U H := fun h => by
    obtain ⟨t, h1, h2, h3⟩ := h
    exact ⟨t, h1.narrow (fun q hq => Nat.le_trans hb hq), Nat.lt_of_lt_of_le h2 hb, h3⟩
  exact ⟨one h.1, one h.2.1, one h.2.2⟩
section ZT
variable {p : Program} {l : Launch} {e : Env} {R : Room} {s : State} {m : MethodId} {args : Array Value} {below : List Frame} {meth : Method} {c : Code} {H : Heap} {locs : List Loc} {cells slots : Nat} {Q : State → Prop}
variable {cc : ByteArray} {pc : Nat} {ls : Array Slot} {rest : List Value} {D : va_G} {cI cT : ClassId} {Ts : List Cond} {own C n d host : String} {nL index : Nat} {v : Value} {A : Nat → Prop}
theorem zr_gets (S : CallFix p m c cc nL s args Ts own) (hZ : va_Z C n d v A s H) (hl : Cond.fieldLink own index C n d ∈ Ts) (hdg : decode cc pc = .ok (.getstatic index, 3))
    (kk : W p l e R s m args below meth c H locs cells slots Q (F0 m (pc + 3) ls (v :: rest))) : W p l e R s m args below meth c H locs cells slots Q (F0 m pc ls rest) := by
  obtain ⟨cf, kf, fi, f, a, cell, h1, h2, h3, h4, h5, h6, h7, h8⟩ := hZ
  exact W.gets S.1 S.2.1 S.2.2.2.1 (S.2.2.2.2 _ hl) h1 h2 h3 h4 h5 (fun e => by rw [e] at h6; cases h6) h7 rfl hdg kk
theorem zr_getsN (S : CallFix p m c cc nL s args Ts own) (hZ : va_Z C n d v A s H) (hl : va_Nw (.fieldLinkNest own index C n d host) s) (hdg : decode cc pc = .ok (.getstatic index, 3))
    (kk : W p l e R s m args below meth c H locs cells slots Q (F0 m (pc + 3) ls (v :: rest))) : W p l e R s m args below meth c H locs cells slots Q (F0 m pc ls rest) := by
  obtain ⟨cf, kf, fi, f, a, cell, h1, h2, h3, h4, h5, h6, h7, h8⟩ := hZ
  exact va_WgetsN S.1 S.2.1 S.2.2.2.1 (va_Nw.use rfl hl) h1 h2 h3 h4 h5 (fun e => by rw [e] at h6; cases h6) h7 rfl hdg kk
end ZT
/-! bits that the loads need -/
theorem need_s (g : Int → Int) (c a : Int) (n : Nat) : need g c a (n + 1) = need g c a n + ti (lack g c a (n : Int) ≠ 0) := rfl
theorem need_0 (g : Int → Int) (c a : Int) : need g c a 0 = 0 := rfl
theorem zabs_0 : zabs 0 = 0 := rfl
theorem aset_s (g : Int → Int) (n : Nat) : aset g (n + 1) = aset g n + ti (awy g (n : Int) (g 3) 1) * pw (n : Int) := rfl
theorem dset_s (g : Int → Int) (p q : Int) (n : Nat) : dset g p q (n + 1) = dset g p q n + ti (dty g p q (n : Int)) * pw (n : Int) := rfl
theorem aset_bd (g : Int → Int) (n : Nat) : 0 ≤ aset g n ∧ aset g n < pw (n : Int) := sbits_bd (fun k => awy g k (g 3) 1) n
theorem dset_bd (g : Int → Int) (p q : Int) (n : Nat) : 0 ≤ dset g p q n ∧ dset g p q n < pw (n : Int) := sbits_bd (fun k => dty g p q k) n
theorem pw16 {n : Int} (h0 : 0 ≤ n) (h1 : n ≤ 16) : pw n ≤ 65536 := by
  have h := pw_le (i := n.toNat) (k := 16) (by omega)
  have e : ((n.toNat : Nat) : Int) = n := by omega
  rw [e] at h
  exact h
theorem cnb_trim {n : Int} {i k : Nat} (h0 : 0 ≤ n) (h1 : n < pw (i : Int)) (hk : i ≤ k) : cnb n k = cnb n i := by
  induction k with
  | zero => rw [show i = 0 by omega]
  | succ k ih =>
    by_cases e : i = k + 1
    · rw [e]
    · have h2 := ih (by omega)
      have h3 : ¬ bit n (k : Int) := fun q => by
        have := bit_in h0 q
        have := pw_le (i := i) (k := k) (by omega)
        omega
      show cnb n k + ti (bit n (k : Int)) = _
      rw [ti_f h3, h2]
      omega
theorem cnb_small : ∀ k : Fin 4, pcN k.val 16 = if k.val = 3 then 2 else if k.val = 0 then 0 else 1 := by decide
theorem cnb_col {x : Int} (h0 : 0 ≤ x) (h1 : x ≤ 3) : (cnb x 16 ≤ 1 ↔ x ≠ 3) ∧ 0 ≤ cnb x 16 ∧ cnb x 16 ≤ 2 := by
  have h := cnb_small ⟨x.toNat, by omega⟩
  have e : x = ((x.toNat : Nat) : Int) := by omega
  rw [e, cnb_pc]
  simp only at h
  rw [h]
  split
  · omega
  · split <;> omega
theorem cnb_bd (n : Int) (m : Nat) : 0 ≤ cnb n m ∧ cnb n m ≤ (m : Int) := sm_01 (fun j => ti_01 _)
def orc (x c : Int) : Int := if c = 0 then (if x % 2 = 1 then x else x + 1) else (if 2 ≤ x then x else x + 2)
theorem orc_f : ∀ (x : Fin 4) (c : Fin 2), zI (x.val : Int) ||| zI (pw (c.val : Int)) = zI (orc (x.val : Int) (c.val : Int)) := by decide +kernel
theorem zi_orc {x c : Int} (h0 : 0 ≤ x) (h1 : x ≤ 3) (c0 : 0 ≤ c) (c1 : c ≤ 1) : zI x ||| zI (pw c) = zI (orc x c) := by
  have h := orc_f ⟨x.toNat, by omega⟩ ⟨c.toNat, by omega⟩
  have e1 : ((x.toNat : Nat) : Int) = x := by omega
  have e2 : ((c.toNat : Nat) : Int) = c := by omega
  simp only [e1, e2] at h
  exact h
theorem hasC_s (g : Int → Int) (ld col : Int) (i : Nat) : hasC g ld col ((i + 1 : Nat) : Int) ↔ hasC g ld col (i : Int) ∨ (bit ld (i : Int) ∧ gC g (i : Int) 5 = col) := by
  constructor
  · rintro ⟨k, k0, k1, k2, k3⟩
    rcases Int.lt_or_le k (i : Int) with q | q
    · exact Or.inl ⟨k, k0, q, k2, k3⟩
    · have e : k = (i : Int) := by omega
      subst e
      exact Or.inr ⟨k2, k3⟩
  · rintro (⟨k, k0, k1, k2⟩ | ⟨h1, h2⟩)
    · exact ⟨k, k0, by omega, k2⟩
    · exact ⟨(i : Int), by omega, by omega, h1, h2⟩
theorem hasC_0 (g : Int → Int) (ld col : Int) : ¬ hasC g ld col ((0 : Nat) : Int) := fun ⟨_, h0, h1, _⟩ => by omega
noncomputable def colS (g : Int → Int) (ld : Int) (n : Int) : Int := ti (hasC g ld 0 n) + 2 * ti (hasC g ld 1 n)
theorem colS_bd (g : Int → Int) (ld n : Int) : 0 ≤ colS g ld n ∧ colS g ld n ≤ 3 := by
  have h1 := ti_01 (hasC g ld 0 n)
  have h2 := ti_01 (hasC g ld 1 n)
  unfold colS
  omega
theorem colS_0 (g : Int → Int) (ld : Int) : colS g ld ((0 : Nat) : Int) = 0 := by
  unfold colS
  rw [ti_f (hasC_0 g ld 0), ti_f (hasC_0 g ld 1)]
  rfl
theorem colS_n {g : Int → Int} {ld : Int} {i : Nat} (h : ¬ bit ld (i : Int)) : colS g ld ((i + 1 : Nat) : Int) = colS g ld (i : Int) := by
  unfold colS
  rw [ti_iff (hasC_s g ld 0 i), ti_iff (hasC_s g ld 1 i), ti_iff (show (hasC g ld 0 (i : Int) ∨ (bit ld (i : Int) ∧ gC g (i : Int) 5 = 0)) ↔ hasC g ld 0 (i : Int) from ⟨fun q => q.elim id (fun z => absurd z.1 h), Or.inl⟩), ti_iff (show (hasC g ld 1 (i : Int) ∨ (bit ld (i : Int) ∧ gC g (i : Int) 5 = 1)) ↔ hasC g ld 1 (i : Int) from ⟨fun q => q.elim id (fun z => absurd z.1 h), Or.inl⟩)]
theorem colS_y {g : Int → Int} {ld : Int} {i : Nat} (h : bit ld (i : Int)) (hc : 0 ≤ gC g (i : Int) 5 ∧ gC g (i : Int) 5 ≤ 1) : colS g ld ((i + 1 : Nat) : Int) = orc (colS g ld (i : Int)) (gC g (i : Int) 5) := by
  unfold colS
  rw [ti_iff (hasC_s g ld 0 i), ti_iff (hasC_s g ld 1 i)]
  have a := ti_or (hasC g ld 0 (i : Int))
  have b := ti_or (hasC g ld 1 (i : Int))
  rcases (show gC g (i : Int) 5 = 0 ∨ gC g (i : Int) 5 = 1 by omega) with e | e
  · rw [ti_t (Or.inr ⟨h, e⟩), ti_iff (show (hasC g ld 1 (i : Int) ∨ (bit ld (i : Int) ∧ gC g (i : Int) 5 = 1)) ↔ hasC g ld 1 (i : Int) from ⟨fun q => q.elim id (fun z => absurd z.2 (by omega)), Or.inl⟩), e]
    unfold orc
    rcases a with a | a <;> rcases b with b | b <;> rw [a, b] <;> decide
  · rw [ti_t (P := hasC g ld 1 (i : Int) ∨ _) (Or.inr ⟨h, e⟩), ti_iff (show (hasC g ld 0 (i : Int) ∨ (bit ld (i : Int) ∧ gC g (i : Int) 5 = 0)) ↔ hasC g ld 0 (i : Int) from ⟨fun q => q.elim id (fun z => absurd z.2 (by omega)), Or.inl⟩), e]
    unfold orc
    rcases a with a | a <;> rcases b with b | b <;> rw [a, b] <;> decide
theorem colS_3 (g : Int → Int) (ld n : Int) : colS g ld n = 3 ↔ hasC g ld 0 n ∧ hasC g ld 1 n := by
  unfold colS
  rcases Classical.em (hasC g ld 0 n) with a | a <;> rcases Classical.em (hasC g ld 1 n) with b | b
  · rw [ti_t a, ti_t b]; simp [a, b]
  · rw [ti_t a, ti_f b]; simp [a, b]
  · rw [ti_f a, ti_t b]; simp [a, b]
  · rw [ti_f a, ti_f b]; simp [a, b]
theorem cwt {code p : Int} (hc : 0 ≤ code ∧ code ≤ 3) (p0 : 0 ≤ p) (p1 : p ≤ 3) : bit (tbP code) p ↔ cwP code p := by
  have h := cw_bits ⟨code.toNat, by omega⟩ ⟨p.toNat, by omega⟩
  have e1 : ((code.toNat : Nat) : Int) = code := by omega
  have e2 : ((p.toNat : Nat) : Int) = p := by omega
  simp only [e1, e2] at h
  refine Iff.trans ?_ h
  have e3 : tbP code = ([7, 14, 12, 8] : List Int).getD code.toNat 0 := by
    unfold tbP
    rcases (show code = 0 ∨ code = 1 ∨ code = 2 ∨ code = 3 by omega) with e | e | e | e <;> subst e <;> rfl
  rw [e3]
theorem tbP_bd (i : Int) : 7 ≤ tbP i ∧ tbP i ≤ 14 := by
  unfold tbP
  split
  · omega
  · split
    · omega
    · split <;> omega
