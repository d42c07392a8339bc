theorem itr_d (q : Int → Int) (i : Nat) (h : Int) : 31 * itr (dgf q) i h + wz (q (i : Int)) = itr (dgf q) (i + 1) h := (itr_s (dgf q) i h).symm
theorem itr_x (g : Int → Int) (k : Int) (i : Nat) (h : Int) : 31 * (31 * itr (dgX g k) i h + wz (qAlt g k (i : Int) 0)) + wz (qAlt g k (i : Int) 1) = itr (dgX g k) (i + 1) h := (itr_s (dgX g k) i h).symm
theorem dg1_e (g : Int → Int) : dg1 g = itr (dgf (qCou g 0 0)) 10 7 := rfl
theorem dg2_e (g : Int → Int) : dg2 g = itr (dgf (fun x => qCou g 0 0 (12 + x))) 4 (dg1 g) := rfl
theorem dg3_e (g : Int → Int) : dg3 g = itr (dgC g) (g 0).toNat (dg2 g) := rfl
theorem dg4_e (g : Int → Int) : dg4 g = itr (dgA g) (g 1).toNat (dg3 g) := rfl
theorem DG_e (g : Int → Int) : DG g = itr (dgH g) (g 2).toNat (dg4 g) := rfl
