/-! the pure part: reading what was written -/
theorem bi_sbi (B : StB) (p k : Nat) (v : Int32) (q j : Nat) : bi (sbi B p k v) q j = if q = p ∧ j = k then v else bi B q j := rfl
theorem bi_sba (B : StB) (p k : Nat) (v : Int32) (q j : Nat) : bi (sba B p k v) q j = bi B q j := rfl
theorem bi_sbl (B : StB) (p k : Nat) (v : Int64) (q j : Nat) : bi (sbl B p k v) q j = bi B q j := rfl
theorem ba_sba (B : StB) (p k : Nat) (v : Int32) (q j : Nat) : ba (sba B p k v) q j = if q = p ∧ j = k then v else ba B q j := rfl
theorem ba_sbi (B : StB) (p k : Nat) (v : Int32) (q j : Nat) : ba (sbi B p k v) q j = ba B q j := rfl
theorem ba_sbl (B : StB) (p k : Nat) (v : Int64) (q j : Nat) : ba (sbl B p k v) q j = ba B q j := rfl
theorem bl_sbl (B : StB) (p k : Nat) (v : Int64) (q j : Nat) : bl (sbl B p k v) q j = if q = p ∧ j = k then v else bl B q j := rfl
theorem bl_sbi (B : StB) (p k : Nat) (v : Int32) (q j : Nat) : bl (sbi B p k v) q j = bl B q j := rfl
theorem bl_sba (B : StB) (p k : Nat) (v : Int32) (q j : Nat) : bl (sba B p k v) q j = bl B q j := rfl
theorem bz_sbi (B : StB) (p k : Nat) (v : Int32) : bz (sbi B p k v) = bz B := rfl
theorem bz_sba (B : StB) (p k : Nat) (v : Int32) : bz (sba B p k v) = bz B := rfl
theorem bz_sbl (B : StB) (p k : Nat) (v : Int64) : bz (sbl B p k v) = bz B := rfl
theorem mi_smi (M : StM) (k : Nat) (v : Int32) (j : Nat) : mi (smi M k v) j = if j = k then v else mi M j := rfl
theorem mi_sma (M : StM) (q k : Nat) (v : Int32) (j : Nat) : mi (sma M q k v) j = mi M j := rfl
theorem ma_sma (M : StM) (p k : Nat) (v : Int32) (q j : Nat) : ma (sma M p k v) q j = if q = p ∧ j = k then v else ma M q j := rfl
theorem ma_smi (M : StM) (k : Nat) (v : Int32) (q j : Nat) : ma (smi M k v) q j = ma M q j := rfl
theorem ix_ofN {a : Nat} (h : a < 2 ^ 31) : ix (Int32.ofNat a) = a := ofN_cl h
theorem i32_le {a b : Int32} : a ≤ b ↔ a.toInt ≤ b.toInt := Int32.le_iff_toInt_le
theorem i32_lt {a b : Int32} : a < b ↔ a.toInt < b.toInt := Int32.lt_iff_toInt_lt
theorem i32_ix {a : Int32} (h : 0 ≤ a.toInt) : ((ix a : Nat) : Int) = a.toInt := by
  show ((a.toInt.toNat : Nat) : Int) = _
  omega
theorem i32_ofix {a : Int32} (h : 0 ≤ a.toInt) : a = Int32.ofNat (ix a) := by
  apply Int32.toInt_inj.mp
  have h2 : a.toInt < 2 ^ 31 := Int32.toInt_lt a
  have h3 := i32_ix h
  rw [ofN_toInt (by omega)]
  omega
theorem i32_in {a : Int32} {n : Nat} (h : 0 ≤ a.toInt) (h2 : a.toInt < (n : Int)) : vp_in a n := by
  unfold vp_in
  rintro (q | q)
  · rw [i32_lt] at q
    have : (0 : Int32).toInt = 0 := by decide
    omega
  · have := i32_ix h
    unfold ix at this
    omega
theorem bm_id {x : Int} (h1 : -2147483648 ≤ x) (h2 : x < 2147483648) : Int.bmod x (2 ^ 32) = x := by
  rw [Int.bmod_def]
  split <;> omega
theorem i32_add {a b : Int32} (h1 : -2147483648 ≤ a.toInt + b.toInt) (h2 : a.toInt + b.toInt < 2147483648) : (a + b).toInt = a.toInt + b.toInt := by
  rw [Int32.toInt_add]
  exact bm_id h1 h2
theorem i32_sub {a b : Int32} (h1 : -2147483648 ≤ a.toInt - b.toInt) (h2 : a.toInt - b.toInt < 2147483648) : (a - b).toInt = a.toInt - b.toInt := by
  rw [Int32.toInt_sub]
  exact bm_id h1 h2
theorem i32_mul {a b : Int32} (h1 : -2147483648 ≤ a.toInt * b.toInt) (h2 : a.toInt * b.toInt < 2147483648) : (a * b).toInt = a.toInt * b.toInt := by
  rw [Int32.toInt_mul]
  exact bm_id h1 h2
theorem i32_neg {a : Int32} (h1 : -2147483648 < a.toInt) : (-a).toInt = -a.toInt := by
  have h2 : a.toInt < 2 ^ 31 := Int32.toInt_lt a
  rw [Int32.toInt_neg]
  exact bm_id (by omega) (by omega)
theorem i32_inj {a b : Int32} : a = b ↔ a.toInt = b.toInt := Int32.toInt_inj.symm
theorem i32_lo (a : Int32) : -2147483648 ≤ a.toInt := Int32.le_toInt a
theorem i32_hi (a : Int32) : a.toInt < 2147483648 := Int32.toInt_lt a
theorem i32_inc {a : Int32} {n : Nat} (h : a.toInt < (n : Int)) (hn : n < 2147483648) : (a + 1).toInt = a.toInt + 1 := by
  have h1 : (1 : Int32).toInt = 1 := by decide
  have := i32_lo a
  rw [i32_add (by rw [h1]; omega) (by rw [h1]; omega), h1]
/-- two longs of ints -/
theorem i64_of {a : Int32} : a.toInt64.toInt = a.toInt := Int32.toInt_toInt64 a
theorem bm64_id {x : Int} (h1 : -9223372036854775808 ≤ x) (h2 : x < 9223372036854775808) : Int.bmod x (2 ^ 64) = x := by
  rw [Int.bmod_def]
  split <;> omega
theorem i64_add {a b : Int64} (h1 : -9223372036854775808 ≤ a.toInt + b.toInt) (h2 : a.toInt + b.toInt < 9223372036854775808) : (a + b).toInt = a.toInt + b.toInt := by
  rw [Int64.toInt_add]
  exact bm64_id h1 h2
theorem i64_sub {a b : Int64} (h1 : -9223372036854775808 ≤ a.toInt - b.toInt) (h2 : a.toInt - b.toInt < 9223372036854775808) : (a - b).toInt = a.toInt - b.toInt := by
  rw [Int64.toInt_sub]
  exact bm64_id h1 h2
theorem i64_inj {a b : Int64} : a = b ↔ a.toInt = b.toInt := Int64.toInt_inj.symm
