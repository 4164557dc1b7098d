/-! the pure part: rows of the model, ledgers of the class, how they are tied -/
def ur (R : Nat → Int32) (k : Nat) (v : Int32) : Nat → Int32 := fun j => if j = k then v else R j
def rs (M : StM) (R : Nat → Int32) : StM := (M.1, fun q => if q = 0 then R else M.2 q)
theorem ma_rs0 (M : StM) (R : Nat → Int32) (k : Nat) : ma (rs M R) 0 k = R k := rfl
theorem ma_rs (M : StM) (R : Nat → Int32) {q : Nat} (h : q ≠ 0) (k : Nat) : ma (rs M R) q k = ma M q k := by
  show (if q = 0 then R else M.2 q) k = _
  rw [if_neg h]
  rfl
theorem mi_rs (M : StM) (R : Nat → Int32) (k : Nat) : mi (rs M R) k = mi M k := rfl
theorem sma_rs (M : StM) (R : Nat → Int32) (k : Nat) (v : Int32) : sma (rs M R) 0 k v = rs M (ur R k v) := by
  refine Prod.ext rfl (funext fun q => funext fun j => ?_)
  show up2 (fun q => if q = 0 then R else M.2 q) 0 k v q j = (if q = 0 then ur R k v else M.2 q) j
  unfold up2 ur
  by_cases h : q = 0
  · subst h
    simp
  · simp [h]
theorem smi_rs (M : StM) (R : Nat → Int32) (k : Nat) (v : Int32) : smi (rs M R) k v = rs (smi M k v) R := rfl
theorem rs_rs (M : StM) (R R' : Nat → Int32) : rs (rs M R) R' = rs M R' := by
  refine Prod.ext rfl (funext fun q => ?_)
  show (if q = 0 then R' else (if q = 0 then R else M.2 q)) = (if q = 0 then R' else M.2 q)
  by_cases h : q = 0
  · simp [h]
  · simp [h]
theorem rs_self (M : StM) : rs M (ma M 0) = M := by
  refine Prod.ext rfl (funext fun q => ?_)
  show (if q = 0 then ma M 0 else M.2 q) = M.2 q
  by_cases h : q = 0
  · subst h
    rfl
  · rw [if_neg h]
theorem smi_smi (M : StM) (k : Nat) (v w : Int32) : smi (smi M k v) k w = smi M k w := by
  refine Prod.ext (funext fun b => ?_) rfl
  show (if b = k then w else if b = k then v else M.1 b) = (if b = k then w else M.1 b)
  split <;> rfl
theorem smi_self (M : StM) (k : Nat) : smi M k (mi M k) = M := by
  refine Prod.ext (funext fun b => ?_) rfl
  show (if b = k then M.1 k else M.1 b) = M.1 b
  split
  · rename_i h
    rw [h]
  · rfl
theorem smi_comm (M : StM) {k j : Nat} (h : k ≠ j) (v w : Int32) : smi (smi M k v) j w = smi (smi M j w) k v := by
  refine Prod.ext (funext fun b => ?_) rfl
  show (if b = j then w else if b = k then v else M.1 b) = (if b = k then v else if b = j then w else M.1 b)
  by_cases h1 : b = j
  · by_cases h2 : b = k
    · exact absurd (h2.symm.trans h1) h
    · simp [h1, h2, Ne.symm h]
  · simp [h1]
theorem ur_eq (R : Nat → Int32) (k : Nat) (v : Int32) : ur R k v k = v := if_pos rfl
theorem ur_ne (R : Nat → Int32) {k j : Nat} (v : Int32) (h : j ≠ k) : ur R k v j = R j := if_neg h
theorem ur_ap (R : Nat → Int32) (k j : Nat) (v : Int32) : ur R k v j = if j = k then v else R j := rfl
theorem ur_self (R : Nat → Int32) (k : Nat) : ur R k (R k) = R := by
  funext j
  unfold ur
  split
  · rename_i h
    rw [h]
  · rfl
/-! numbers -/
theorem oadd (a b : Nat) : Int32.ofNat a + Int32.ofNat b = Int32.ofNat (a + b) := (Int32.ofNat_add a b).symm
theorem oad0 (a : Nat) : Int32.ofNat a + 0 = Int32.ofNat a := Int32.add_zero _
theorem oad1 (a : Nat) : Int32.ofNat a + 1 = Int32.ofNat (a + 1) := (Int32.ofNat_add a 1).symm
theorem oad2 (a : Nat) : Int32.ofNat a + 2 = Int32.ofNat (a + 2) := (Int32.ofNat_add a 2).symm
theorem oad3 (a : Nat) : Int32.ofNat a + 3 = Int32.ofNat (a + 3) := (Int32.ofNat_add a 3).symm
theorem oad4 (a : Nat) : Int32.ofNat a + 4 = Int32.ofNat (a + 4) := (Int32.ofNat_add a 4).symm
theorem oad5 (a : Nat) : Int32.ofNat a + 5 = Int32.ofNat (a + 5) := (Int32.ofNat_add a 5).symm
theorem oacc (i : Nat) : (12 : Int32) + 4 * Int32.ofNat i = Int32.ofNat (12 + 4 * i) := by
  rw [Int32.ofNat_add, Int32.ofNat_mul]
  rfl
theorem opla (k : Nat) : (44 : Int32) + 5 * Int32.ofNat k = Int32.ofNat (44 + 5 * k) := by
  rw [Int32.ofNat_add, Int32.ofNat_mul]
  rfl
theorem omov (k : Nat) : (94 : Int32) + 3 * Int32.ofNat k = Int32.ofNat (94 + 3 * k) := by
  rw [Int32.ofNat_add, Int32.ofNat_mul]
  rfl
theorem osub {a b : Nat} (h : b ≤ a) : Int32.ofNat a - Int32.ofNat b = Int32.ofNat (a - b) := (Int32.ofNat_sub a b h).symm
theorem osu1 {a : Nat} (h : 1 ≤ a) : Int32.ofNat a - 1 = Int32.ofNat (a - 1) := (Int32.ofNat_sub a 1 h).symm
theorem osu3 {a : Nat} (h : 3 ≤ a) : Int32.ofNat a - 3 = Int32.ofNat (a - 3) := (Int32.ofNat_sub a 3 h).symm
theorem oadm1 {a : Nat} (h : 1 ≤ a) : Int32.ofNat a + (-1) = Int32.ofNat (a - 1) := by
  rw [← Int32.sub_eq_add_neg, osu1 h]
theorem ixl : ix 0 = 0 ∧ ix 1 = 1 ∧ ix 2 = 2 ∧ ix 3 = 3 ∧ ix 4 = 4 ∧ ix 5 = 5 ∧ ix 6 = 6 ∧ ix 7 = 7 ∧ ix 8 = 8 ∧ ix 9 = 9 ∧ ix 10 = 10 ∧ ix 11 = 11 ∧ ix 94 = 94 ∧ ix 95 = 95 ∧ ix 96 = 96 := by decide
theorem il_lt {a b : Nat} (ha : a < 2 ^ 31) (hb : b < 2 ^ 31) : (Int32.ofNat a < Int32.ofNat b) = (a < b) := propext (lt_ofN ha hb)
theorem il_le {a b : Nat} (ha : a < 2 ^ 31) (hb : b < 2 ^ 31) : (Int32.ofNat a ≤ Int32.ofNat b) = (a ≤ b) := propext (le_ofN ha hb)
theorem ofN_inj {a b : Nat} (ha : a < 2 ^ 31) (hb : b < 2 ^ 31) : (Int32.ofNat a = Int32.ofNat b) ↔ a = b := by
  rw [i32_inj, ofN_toInt ha, ofN_toInt hb]
  omega
/-- an int at least 0 and below n is the int of a number below n -/
theorem of_rng {x : Int32} {n : Nat} (h : 0 ≤ x.toInt) (h2 : x.toInt < (n : Int)) : ∃ i, i < n ∧ x = Int32.ofNat i := by
  refine ⟨ix x, ?_, i32_ofix h⟩
  have := i32_ix h
  omega
theorem nar01 {r : Int32} (h : r = 0 ∨ r = 1) : narrow .boolean (.int r) = .int r := by
  rcases h with rfl | rfl <;> decide
theorem vn01 {r : Int32} (h : r = 0 ∨ r = 1) : vp_nar .boolean r = r := by
  rcases h with rfl | rfl <;> decide
def jk (v : Int32) : Prop := v = 100 ∨ v = 119 ∨ v = 116 ∨ v = 105 ∨ v = 99 ∨ v = 102
theorem vnjk {v : Int32} (h : jk v) : vp_nar .char v = v := by
  rcases h with rfl | rfl | rfl | rfl | rfl | rfl <;> decide
theorem nark {v : Int32} (h : jk v) : narrow .char (.int v) = .int v := by
  rcases h with rfl | rfl | rfl | rfl | rfl | rfl <;> decide
theorem cajk {v : Int32} (h : jk v) : (v.toUInt32 % 65536).toInt32 = v := by
  rcases h with rfl | rfl | rfl | rfl | rfl | rfl <;> decide
theorem in_o {a L : Nat} (h : a < L) (hL : L < 2 ^ 31) : vp_in (Int32.ofNat a) L := ofN_in (by omega) h
theorem ix_o {a : Nat} (h : a < 2 ^ 31) : ix (Int32.ofNat a) = a := ix_ofN h
theorem isIn_1 {x a b : Int32} (h1 : ¬ x < a) (h2 : ¬ b < x) : f_X7_isIn x a b = 1 := by
  unfold f_X7_isIn
  rw [if_neg h1, if_neg h2]
theorem isIn_0 {x a b : Int32} (h : x < a ∨ b < x) : f_X7_isIn x a b = 0 := by
  unfold f_X7_isIn
  by_cases h1 : x < a
  · rw [if_pos h1]
  · rw [if_neg h1, if_pos (h.resolve_left h1)]
theorem isIn_6 (x a b : Int32) : f_X6_isIn x a b = f_X7_isIn x a b := rfl
theorem isIn_c (x a b : Int32) : (f_X7_isIn x a b = 1 ∧ a.toInt ≤ x.toInt ∧ x.toInt ≤ b.toInt) ∨ (f_X7_isIn x a b = 0 ∧ (x.toInt < a.toInt ∨ b.toInt < x.toInt)) := by
  by_cases h1 : x < a
  · exact Or.inr ⟨isIn_0 (Or.inl h1), Or.inl (i32_lt.mp h1)⟩
  · by_cases h2 : b < x
    · exact Or.inr ⟨isIn_0 (Or.inr h2), Or.inr (i32_lt.mp h2)⟩
    · refine Or.inl ⟨isIn_1 h1 h2, ?_, ?_⟩
      · rw [i32_lt] at h1
        omega
      · rw [i32_lt] at h2
        omega
/-! what the model's methods are on rows -/
theorem holds_1 (M : StM) (b c d : Int32) : f_X7_holds M 0 b c d = (0, smi M 15 1) := by simp [f_X7_holds, f_X7_holds_J35, nm, mi_smi]
theorem holds_2 (M : StM) (c d : Int32) : f_X7_holds M 1 0 c d = (0, smi M 15 2) := by simp [f_X7_holds, f_X7_holds_J35, nm, mi_smi]
theorem holds_3 (M : StM) (d : Int32) : f_X7_holds M 1 1 0 d = (0, smi M 15 3) := by simp [f_X7_holds, f_X7_holds_J35, nm, mi_smi]
theorem holds_4 (M : StM) : f_X7_holds M 1 1 1 0 = (0, smi M 15 4) := by simp [f_X7_holds, f_X7_holds_J35, nm, mi_smi]
theorem holds_0 (M : StM) : f_X7_holds M 1 1 1 1 = (1, smi M 15 0) := by simp [f_X7_holds, f_X7_holds_J35, nm, mi_smi]
theorem goes_1 (M : StM) : f_X7_goes M 1 = (1, smi M 15 0) := by simp only [f_X7_goes, nm_eq, holds_0]
theorem goes_0 (M : StM) : f_X7_goes M 0 = (0, smi M 15 1) := by simp only [f_X7_goes, nm_eq, holds_1]
theorem okgoes {M : StM} {x : Int32} (h : x = 0 ∨ x = 1) : ok_X7_goes M x := by
  rcases h with rfl | rfl
  · rintro _ rfl
    rw [holds_1]
    exact nar01 (Or.inl rfl)
  · rintro _ rfl
    rw [holds_0]
    exact nar01 (Or.inr rfl)
theorem isIn01 (x a b : Int32) : f_X7_isIn x a b = 0 ∨ f_X7_isIn x a b = 1 := by
  rcases isIn_c x a b with h | h
  · exact Or.inr h.1
  · exact Or.inl h.1
theorem okisAcc (M : StM) (x : Int32) : ok_X7_isAccount M x := by
  rintro _ rfl
  exact nar01 (isIn01 _ _ _)
theorem isAmt (x : Int32) : f_X7_isAmount x = f_X7_isIn x 1 999 := rfl
/-- there is such an account -/
def acc (n : Nat) (x : Int32) : Prop := 0 ≤ x.toInt ∧ x.toInt < (n : Int)
theorem acc_o {n : Nat} {x : Int32} (h : acc n x) : ∃ i, i < n ∧ x = Int32.ofNat i := of_rng h.1 h.2
theorem o_acc {n i : Nat} (h : i < n) (hn : n ≤ 8) : acc n (Int32.ofNat i) := by
  unfold acc
  rw [ofN_toInt (by omega)]
  omega
theorem isAcc_1 {M : StM} {R : Nat → Int32} {n : Nat} {x : Int32} (h : R 1 = Int32.ofNat n) (hn : n ≤ 8) (hx : acc n x) : f_X7_isAccount (rs M R) x = 1 := by
  obtain ⟨i, hi, rfl⟩ := acc_o hx
  show f_X7_isIn (Int32.ofNat i) 0 (R 1 - 1) = 1
  rw [h, osu1 (by omega)]
  refine isIn_1 ?_ ?_
  · rw [show (0 : Int32) = Int32.ofNat 0 from rfl, lt_ofN (by omega) (by omega)]
    omega
  · rw [lt_ofN (by omega) (by omega)]
    omega
theorem isAcc_0 {M : StM} {R : Nat → Int32} {n : Nat} {x : Int32} (h : R 1 = Int32.ofNat n) (hn : n ≤ 8) (hx : ¬ acc n x) : f_X7_isAccount (rs M R) x = 0 := by
  show f_X7_isIn x 0 (R 1 - 1) = 0
  have e0 : (0 : Int32).toInt = 0 := by decide
  have e1 : (1 : Int32).toInt = 1 := by decide
  have e2 : (Int32.ofNat n - 1).toInt = (n : Int) - 1 := by
    have := ofN_toInt (a := n) (by omega)
    rw [i32_sub (by omega) (by omega)]
    omega
  refine isIn_0 ?_
  rw [i32_lt, i32_lt, h, e2, e0]
  unfold acc at hx
  omega
theorem of_R {M : StM} {R : Nat → Int32} {n i : Nat} {j : Nat} (h : R 1 = Int32.ofNat n) (hn : n ≤ 8) (hi : i < n) (hj : j < 4) : f_X7_of (rs M R) (Int32.ofNat i) (Int32.ofNat j) = R (12 + 4 * i + j) ∧ ok_X7_of (rs M R) (Int32.ofNat i) (Int32.ofNat j) := by
  have h1 : f_X7_isAccount (rs M R) (Int32.ofNat i) = 1 := isAcc_1 h hn (o_acc hi hn)
  refine ⟨?_, ?_⟩
  · unfold f_X7_of
    rw [nm_eq, h1, if_neg (by decide)]
    unfold f_X7_of_J17 f_X7_accountAt
    rw [nm_eq, oacc, oadd, ma_rs0, ix_o (by omega)]
  · unfold ok_X7_of
    refine ⟨okisAcc _ _, ?_⟩
    rintro _ rfl
    rw [h1]
    refine ⟨fun e => absurd e (by decide), fun _ => ?_⟩
    rintro _ rfl
    unfold f_X7_accountAt
    rw [oacc, oadd]
    exact in_o (by omega) (by omega)
/-- outside the accounts: the first one's number; never asked for more than its being there -/
theorem ok_of {M : StM} {R : Nat → Int32} {n : Nat} {x : Int32} {j : Nat} (h : R 1 = Int32.ofNat n) (hn : n ≤ 8) (hj : j < 4) : ok_X7_of (rs M R) x (Int32.ofNat j) := by
  by_cases hx : acc n x
  · obtain ⟨i, hi, rfl⟩ := acc_o hx
    exact (of_R h hn hi hj).2
  · unfold ok_X7_of
    refine ⟨okisAcc _ _, ?_⟩
    rintro _ rfl
    rw [isAcc_0 h hn hx]
    refine ⟨fun _ => ?_, fun e => absurd rfl e⟩
    rintro _ rfl
    unfold f_X7_accountAt
    rw [show (0 : Int32) = Int32.ofNat 0 from rfl, oacc, oadd]
    exact in_o (by omega) (by omega)
theorem of_0 {M : StM} {R : Nat → Int32} {n i : Nat} (h : R 1 = Int32.ofNat n) (hn : n ≤ 8) (hi : i < n) : f_X7_of (rs M R) (Int32.ofNat i) 0 = R (12 + 4 * i) := (of_R (j := 0) h hn hi (by decide)).1
theorem of_1 {M : StM} {R : Nat → Int32} {n i : Nat} (h : R 1 = Int32.ofNat n) (hn : n ≤ 8) (hi : i < n) : f_X7_of (rs M R) (Int32.ofNat i) 1 = R (13 + 4 * i) := by
  rw [show 13 + 4 * i = 12 + 4 * i + 1 by omega]
  exact (of_R (j := 1) h hn hi (by decide)).1
theorem of_2 {M : StM} {R : Nat → Int32} {n i : Nat} (h : R 1 = Int32.ofNat n) (hn : n ≤ 8) (hi : i < n) : f_X7_of (rs M R) (Int32.ofNat i) 2 = R (14 + 4 * i) := by
  rw [show 14 + 4 * i = 12 + 4 * i + 2 by omega]
  exact (of_R (j := 2) h hn hi (by decide)).1
theorem of_3 {M : StM} {R : Nat → Int32} {n i : Nat} (h : R 1 = Int32.ofNat n) (hn : n ≤ 8) (hi : i < n) : f_X7_of (rs M R) (Int32.ofNat i) 3 = R (15 + 4 * i) := by
  rw [show 15 + 4 * i = 12 + 4 * i + 3 by omega]
  exact (of_R (j := 3) h hn hi (by decide)).1
theorem ok_of0 {M : StM} {R : Nat → Int32} {n : Nat} {x : Int32} (h : R 1 = Int32.ofNat n) (hn : n ≤ 8) : ok_X7_of (rs M R) x 0 := ok_of (j := 0) h hn (by decide)
theorem ok_of1 {M : StM} {R : Nat → Int32} {n : Nat} {x : Int32} (h : R 1 = Int32.ofNat n) (hn : n ≤ 8) : ok_X7_of (rs M R) x 1 := ok_of (j := 1) h hn (by decide)
theorem ok_of2 {M : StM} {R : Nat → Int32} {n : Nat} {x : Int32} (h : R 1 = Int32.ofNat n) (hn : n ≤ 8) : ok_X7_of (rs M R) x 2 := ok_of (j := 2) h hn (by decide)
theorem ok_of3 {M : StM} {R : Nat → Int32} {n : Nat} {x : Int32} (h : R 1 = Int32.ofNat n) (hn : n ≤ 8) : ok_X7_of (rs M R) x 3 := ok_of (j := 3) h hn (by decide)
theorem pl_R {M : StM} {R : Nat → Int32} {k j : Nat} (hk : k < 10) (hj : j < 5) : f_X7_ofPlace (rs M R) (Int32.ofNat k) (Int32.ofNat j) = R (44 + 5 * k + j) ∧ ok_X7_ofPlace (rs M R) (Int32.ofNat k) (Int32.ofNat j) := by
  unfold f_X7_ofPlace ok_X7_ofPlace
  rw [opla, oadd, ma_rs0, ix_o (by omega)]
  exact ⟨rfl, in_o (by omega) (by omega)⟩
theorem pl_0 {M : StM} {R : Nat → Int32} {k : Nat} (hk : k < 10) : f_X7_ofPlace (rs M R) (Int32.ofNat k) 0 = R (44 + 5 * k) := (pl_R (j := 0) hk (by decide)).1
theorem pl_1 {M : StM} {R : Nat → Int32} {k : Nat} (hk : k < 10) : f_X7_ofPlace (rs M R) (Int32.ofNat k) 1 = R (45 + 5 * k) := by
  rw [show 45 + 5 * k = 44 + 5 * k + 1 by omega]
  exact (pl_R (j := 1) hk (by decide)).1
theorem pl_2 {M : StM} {R : Nat → Int32} {k : Nat} (hk : k < 10) : f_X7_ofPlace (rs M R) (Int32.ofNat k) 2 = R (46 + 5 * k) := by
  rw [show 46 + 5 * k = 44 + 5 * k + 2 by omega]
  exact (pl_R (j := 2) hk (by decide)).1
theorem pl_3 {M : StM} {R : Nat → Int32} {k : Nat} (hk : k < 10) : f_X7_ofPlace (rs M R) (Int32.ofNat k) 3 = R (47 + 5 * k) := by
  rw [show 47 + 5 * k = 44 + 5 * k + 3 by omega]
  exact (pl_R (j := 3) hk (by decide)).1
theorem pl_4 {M : StM} {R : Nat → Int32} {k : Nat} (hk : k < 10) : f_X7_ofPlace (rs M R) (Int32.ofNat k) 4 = R (48 + 5 * k) := by
  rw [show 48 + 5 * k = 44 + 5 * k + 4 by omega]
  exact (pl_R (j := 4) hk (by decide)).1
theorem ok_pl0 {M : StM} {R : Nat → Int32} {k : Nat} (hk : k < 10) : ok_X7_ofPlace (rs M R) (Int32.ofNat k) 0 := (pl_R (j := 0) hk (by decide)).2
theorem ok_pl1 {M : StM} {R : Nat → Int32} {k : Nat} (hk : k < 10) : ok_X7_ofPlace (rs M R) (Int32.ofNat k) 1 := (pl_R (j := 1) hk (by decide)).2
theorem ok_pl2 {M : StM} {R : Nat → Int32} {k : Nat} (hk : k < 10) : ok_X7_ofPlace (rs M R) (Int32.ofNat k) 2 := (pl_R (j := 2) hk (by decide)).2
theorem ok_pl3 {M : StM} {R : Nat → Int32} {k : Nat} (hk : k < 10) : ok_X7_ofPlace (rs M R) (Int32.ofNat k) 3 := (pl_R (j := 3) hk (by decide)).2
theorem ok_pl4 {M : StM} {R : Nat → Int32} {k : Nat} (hk : k < 10) : ok_X7_ofPlace (rs M R) (Int32.ofNat k) 4 := (pl_R (j := 4) hk (by decide)).2
theorem chg_R {M : StM} {R : Nat → Int32} {i : Nat} {d : Int32} (hi : i < 8) : f_X7_changes (rs M R) (Int32.ofNat i) d = rs M (ur R (13 + 4 * i) (R (13 + 4 * i) + d)) ∧ ok_X7_changes (rs M R) (Int32.ofNat i) d := by
  have e : 12 + 4 * i + 1 = 13 + 4 * i := by omega
  refine ⟨?_, ?_⟩
  · unfold f_X7_changes f_X7_accountAt
    rw [nm_eq, nm_eq, oacc, oad1, e, ix_o (by omega), ma_rs0, sma_rs]
  · unfold ok_X7_changes f_X7_accountAt
    rintro _ rfl
    rw [oacc, oad1]
    have := in_o (a := 12 + 4 * i + 1) (L := 124) (by omega) (by omega)
    simp only [this, and_self]
/-! a movement is written -/
def jwp (R : Nat → Int32) (c : Nat) : Nat → Int32 := fun j => if c < j ∧ 97 ≤ j ∧ j < 124 then R (j - 3) else R j
def jw (R : Nat → Int32) (k a w : Int32) : Nat → Int32 := fun j => if j = 94 then k else if j = 95 then a else if j = 96 then w else if j = 11 then mn 10 (R 11 + 1) else if 97 ≤ j ∧ j < 124 then R (j - 3) else R j
theorem jwp_s (R : Nat → Int32) {c : Nat} (h : 97 ≤ c) (h2 : c < 124) : ur (jwp R c) c (jwp R c (c - 3)) = jwp R (c - 1) := by
  funext j
  unfold ur jwp
  grind
theorem L_writes (M : StM) (R : Nat → Int32) (x y z : Int32) : ∀ n c, 96 ≤ c → c ≤ 123 → c < n + 96 → f_X7_writes_L4 n (rs M (jwp R c)) x y z (Int32.ofNat c) = rs M (jwp R 96) ∧ ok_X7_writes_L4 n (rs M (jwp R c)) x y z (Int32.ofNat c) := by
  intro n
  induction n with
  | zero => intro c h1 h2 h3; omega
  | succ n ih =>
    intro c h1 h2 h3
    have e0 : (Int32.ofNat c < 97) ↔ c < 97 := lt_ofN (b := 97) (by omega) (by decide)
    by_cases h : c = 96
    · subst h
      refine ⟨?_, ?_⟩
      · unfold f_X7_writes_L4
        rw [if_pos (e0.mpr (by decide))]
      · unfold ok_X7_writes_L4
        exact ⟨fun _ => trivial, fun h9 => absurd (e0.mpr (by decide)) h9⟩
    · obtain ⟨g1, g2⟩ := ih (c - 1) (by omega) (by omega) (by omega)
      have e2 : sma (rs M (jwp R c)) 0 (ix (Int32.ofNat c)) (ma (rs M (jwp R c)) 0 (ix (Int32.ofNat c - 3))) = rs M (jwp R (c - 1)) := by
        rw [osu3 (by omega), ix_o (by omega), ix_o (by omega), ma_rs0, sma_rs, jwp_s R (by omega) (by omega)]
      refine ⟨?_, ?_⟩
      · unfold f_X7_writes_L4
        rw [if_neg (fun h9 => by have := e0.mp h9; omega), nm_eq, e2, oadm1 (by omega)]
        exact g1
      · unfold ok_X7_writes_L4
        refine ⟨fun _ => trivial, fun _ => ?_⟩
        rw [osu3 (by omega)]
        refine ⟨in_o (by omega) (by omega), in_o (by omega) (by omega), ?_⟩
        rintro M4 rfl
        rw [← osu3 (by omega), e2, oadm1 (by omega)]
        exact g2
theorem wri_R (M : StM) (R : Nat → Int32) (x y z : Int32) : f_X7_writes (rs M R) x y z = rs M (jw R x y z) ∧ ok_X7_writes (rs M R) x y z := by
  have hfu : 123 < fu + 96 := by unfold fu; omega
  have h := L_writes M R x y z fu 123 (by omega) (by omega) hfu
  clear hfu
  have e : jwp R 123 = R := by
    funext j
    unfold jwp
    grind
  have e0 : Int32.ofNat 123 = (123 : Int32) := rfl
  rw [e, e0] at h
  refine ⟨?_, h.2⟩
  unfold f_X7_writes
  rw [nm_eq, h.1]
  simp only [nm_eq, ixl, sma_rs, ma_rs0]
  congr 1
  funext j
  unfold jw ur jwp
  grind
/-! a transfer is dropped -/
def dwp (R : Nat → Int32) (b a : Nat) : Nat → Int32 := fun j => if b ≤ j ∧ j < a then R (j + 5) else R j
def dw (R : Nat → Int32) (k : Nat) : Nat → Int32 := fun j => if j = 3 then R 3 - 1 else if 44 + 5 * k ≤ j ∧ j < 89 then R (j + 5) else R j
theorem L_drops (M : StM) (R : Nat → Int32) (b : Nat) : ∀ n a, b ≤ a → a ≤ 89 → b < 124 → 89 < n + a → f_X7_drops_L7 n (rs M (dwp R b a)) (Int32.ofNat a) = rs M (dwp R b 89) ∧ ok_X7_drops_L7 n (rs M (dwp R b a)) (Int32.ofNat a) := by
  intro n
  induction n with
  | zero =>
    intro a h1 h2 h3 h4
    omega
  | succ n ih =>
    intro a h1 h2 h3 h4
    have e1 : ((89 : Int32) ≤ Int32.ofNat a) ↔ 89 ≤ a := le_ofN (a := 89) (by decide) (by omega)
    by_cases h : 89 ≤ a
    · have e : 89 = a := by omega
      refine ⟨?_, ?_⟩
      · unfold f_X7_drops_L7
        rw [if_pos (e1.mpr h), ← e]
      · unfold ok_X7_drops_L7
        exact ⟨fun _ => trivial, fun h9 => absurd (e1.mpr h) h9⟩
    · obtain ⟨g1, g2⟩ := ih (a + 1) (by omega) (by omega) h3 (by omega)
      have e2 : sma (rs M (dwp R b a)) 0 (ix (Int32.ofNat a)) (ma (rs M (dwp R b a)) 0 (ix (Int32.ofNat a + 5))) = rs M (dwp R b (a + 1)) := by
        rw [oad5, ix_o (by omega), ix_o (by omega), ma_rs0, sma_rs]
        congr 1
        funext j
        unfold ur dwp
        grind
      refine ⟨?_, ?_⟩
      · unfold f_X7_drops_L7
        rw [if_neg (fun h9 => h (e1.mp h9)), nm_eq, e2, oad1]
        exact g1
      · unfold ok_X7_drops_L7
        refine ⟨fun _ => trivial, fun _ => ?_⟩
        rw [oad5]
        refine ⟨in_o (by omega) (by omega), in_o (by omega) (by omega), ?_⟩
        rintro M4 rfl
        rw [← oad5, e2, oad1]
        exact g2
theorem drp_R (M : StM) (R : Nat → Int32) {k : Nat} (hk : k < 10) : f_X7_drops (rs M R) (Int32.ofNat k) = rs M (dw R k) ∧ ok_X7_drops (rs M R) (Int32.ofNat k) := by
  have hfu : 89 < fu + (44 + 5 * k) := by unfold fu; omega
  have h := L_drops M R (44 + 5 * k) fu (44 + 5 * k) (by omega) (by omega) (by omega) hfu
  clear hfu
  have e : dwp R (44 + 5 * k) (44 + 5 * k) = R := by
    funext j
    unfold dwp
    rw [if_neg (by omega)]
  rw [e] at h
  refine ⟨?_, ?_⟩
  · unfold f_X7_drops
    rw [nm_eq, opla, nm_eq, h.1]
    simp only [nm_eq, ixl, sma_rs, ma_rs0]
    congr 1
    funext j
    unfold dw ur dwp
    grind
  · unfold ok_X7_drops
    rintro _ rfl
    rw [opla]
    exact h.2
