/-! the pure part: reading what was written -/
theorem bi_sbi (B : StB) (p k : Nat) (v : Int32) (q j : Nat) : bi (sbi B p k v) q j = if q = p ∧ j = k then v else bi B q j := rfl
theorem bi_sba (B : StB) (p k : Nat) (v : Int32) (q j : Nat) : bi (sba B p k v) q j = bi B q j := rfl
theorem bi_sbl (B : StB) (p k : Nat) (v : Int64) (q j : Nat) : bi (sbl B p k v) q j = bi B q j := rfl
theorem ba_sba (B : StB) (p k : Nat) (v : Int32) (q j : Nat) : ba (sba B p k v) q j = if q = p ∧ j = k then v else ba B q j := rfl
theorem ba_sbi (B : StB) (p k : Nat) (v : Int32) (q j : Nat) : ba (sbi B p k v) q j = ba B q j := rfl
theorem ba_sbl (B : StB) (p k : Nat) (v : Int64) (q j : Nat) : ba (sbl B p k v) q j = ba B q j := rfl
theorem bl_sbl (B : StB) (p k : Nat) (v : Int64) (q j : Nat) : bl (sbl B p k v) q j = if q = p ∧ j = k then v else bl B q j := rfl
theorem bl_sbi (B : StB) (p k : Nat) (v : Int32) (q j : Nat) : bl (sbi B p k v) q j = bl B q j := rfl
theorem bl_sba (B : StB) (p k : Nat) (v : Int32) (q j : Nat) : bl (sba B p k v) q j = bl B q j := rfl
theorem bz_sbi (B : StB) (p k : Nat) (v : Int32) : bz (sbi B p k v) = bz B := rfl
theorem bz_sba (B : StB) (p k : Nat) (v : Int32) : bz (sba B p k v) = bz B := rfl
theorem bz_sbl (B : StB) (p k : Nat) (v : Int64) : bz (sbl B p k v) = bz B := rfl
theorem mi_smi (M : StM) (k : Nat) (v : Int32) (j : Nat) : mi (smi M k v) j = if j = k then v else mi M j := rfl
theorem mi_sma (M : StM) (q k : Nat) (v : Int32) (j : Nat) : mi (sma M q k v) j = mi M j := rfl
theorem ma_sma (M : StM) (p k : Nat) (v : Int32) (q j : Nat) : ma (sma M p k v) q j = if q = p ∧ j = k then v else ma M q j := rfl
theorem ma_smi (M : StM) (k : Nat) (v : Int32) (q j : Nat) : ma (smi M k v) q j = ma M q j := rfl
theorem ix_ofN {a : Nat} (h : a < 2 ^ 31) : ix (Int32.ofNat a) = a := ofN_cl h
theorem i32_le {a b : Int32} : a ≤ b ↔ a.toInt ≤ b.toInt := Int32.le_iff_toInt_le
theorem i32_lt {a b : Int32} : a < b ↔ a.toInt < b.toInt := Int32.lt_iff_toInt_lt
theorem i32_ix {a : Int32} (h : 0 ≤ a.toInt) : ((ix a : Nat) : Int) = a.toInt := by
  show ((a.toInt.toNat : Nat) : Int) = _
  omega
theorem i32_ofix {a : Int32} (h : 0 ≤ a.toInt) : a = Int32.ofNat (ix a) := by
  apply Int32.toInt_inj.mp
  have h2 : a.toInt < 2 ^ 31 := Int32.toInt_lt a
  have h3 := i32_ix h
  rw [ofN_toInt (by omega)]
  omega
theorem i32_in {a : Int32} {n : Nat} (h : 0 ≤ a.toInt) (h2 : a.toInt < (n : Int)) : vp_in a n := by
  unfold vp_in
  rintro (q | q)
  · rw [i32_lt] at q
    have : (0 : Int32).toInt = 0 := by decide
    omega
  · have := i32_ix h
    unfold ix at this
    omega
