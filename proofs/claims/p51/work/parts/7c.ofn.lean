theorem ofN_in {a L : Nat} (h : a < 2 ^ 31) (hl : a < L) : vp_in (Int32.ofNat a) L := by
  unfold vp_in
  rw [ofN_cl h]
  rintro (q | q)
  · rw [Int32.lt_iff_toInt_lt, ofN_toInt h] at q
    exact absurd q (by simp)
  · omega
