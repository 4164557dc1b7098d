/-! the pure part: a transfer is due -/
def mvR (R : Nat → Int32) (i j : Nat) (a : Int32) : Nat → Int32 := jw (ur (ur (ur (ur R (13 + 4 * i) (R (13 + 4 * i) + -a)) (13 + 4 * j) (ur R (13 + 4 * i) (R (13 + 4 * i) + -a) (13 + 4 * j) + a)) (15 + 4 * i) 1) 7 (ur (ur (ur R (13 + 4 * i) (R (13 + 4 * i) + -a)) (13 + 4 * j) (ur R (13 + 4 * i) (R (13 + 4 * i) + -a) (13 + 4 * j) + a)) (15 + 4 * i) 1 7 + a)) 116 a (Int32.ofNat i)
def bnR (R : Nat → Int32) (i : Nat) : Nat → Int32 := gvN (ur R 10 (R 10 + 1)) i 102 (mn 3 (R (13 + 4 * i) + R (14 + 4 * i)))
/-- whether the one that is watched has bounced -/
def hbw (M : StM) (id : Int32) : Int32 := if mi M 10 = 0 then (if id = mi M 9 then 1 else 0) else 1
/-- the transfer moves -/
def cov (R : Nat → Int32) (i : Nat) (a : Int32) : Prop := ¬ (R (13 + 4 * i) - a) < (-R (14 + 4 * i))
theorem bnR_comm (R : Nat → Int32) (i : Nat) (d : Int32) (hi : i < 8) : ur (gvN R i 102 d) 10 (gvN R i 102 d 10 + 1) = gvN (ur R 10 (R 10 + 1)) i 102 d := by
  unfold gvN
  by_cases h : d ≤ 0
  · rw [if_pos h, if_pos h]
  · rw [if_neg h, if_neg h]
    funext j
    simp only [gvR, jw, ur]
    grind
theorem mov_M {M : StM} {R : Nat → Int32} {n k i j : Nat} {a : Int32} (h1 : R 1 = Int32.ofNat n) (hn : n ≤ 8) (hk : k < 10) (hi : i < n) (hj : j < n) (e1 : R (45 + 5 * k) = Int32.ofNat i) (e2 : R (46 + 5 * k) = Int32.ofNat j) (e3 : R (47 + 5 * k) = a) : ok_X7_isMoved (rs M R) (Int32.ofNat k) ∧ (cov R i a → f_X7_isMoved (rs M R) (Int32.ofNat k) = (1, rs M (mvR R i j a))) ∧ (¬ cov R i a → f_X7_isMoved (rs M R) (Int32.ofNat k) = (0, rs (smi M 10 (hbw M (R (44 + 5 * k)))) (bnR R i))) := by
  have c1 := chg_R (R := R) (M := M) (i := i) (d := -a) (by omega)
  have q2 : f_X7_ofPlace (rs M (ur R (13 + 4 * i) (R (13 + 4 * i) + -a))) (Int32.ofNat k) 2 = Int32.ofNat j := by
    rw [pl_2 hk, ur_ne _ _ (by omega), e2]
  have c2 := chg_R (R := ur R (13 + 4 * i) (R (13 + 4 * i) + -a)) (M := M) (i := j) (d := a) (by omega)
  have e15 : 12 + 4 * i + 3 = 15 + 4 * i := by omega
  have x15 : ix (Int32.ofNat (15 + 4 * i)) = 15 + 4 * i := ix_o (by omega)
  have v15 : vp_in (Int32.ofNat (15 + 4 * i)) 124 := in_o (by omega) (by omega)
  have p1 : f_X7_ofPlace (rs M R) (Int32.ofNat k) 1 = Int32.ofNat i := by rw [pl_1 hk, e1]
  have p3 : f_X7_ofPlace (rs M R) (Int32.ofNat k) 3 = a := by rw [pl_3 hk, e3]
  have am : f_X7_atMost (rs M R) (Int32.ofNat i) 3 = mn 3 (R (13 + 4 * i) + R (14 + 4 * i)) := by
    simp only [f_X7_atMost, nm_eq, of_1 h1 hn hi, of_2 h1 hn hi]
  have oam : ok_X7_atMost (rs M R) (Int32.ofNat i) 3 := ⟨ok_of1 h1 hn, fun _ _ => ok_of2 h1 hn⟩
  have gv := giv_R (M := M) (R := R) (i := i) 102 (mn 3 (R (13 + 4 * i) + R (14 + 4 * i))) (by omega)
  have bc := bnR_comm R i (mn 3 (R (13 + 4 * i) + R (14 + 4 * i))) (by omega)
  have q0 : f_X7_ofPlace (rs M (bnR R i)) (Int32.ofNat k) 0 = R (44 + 5 * k) := by
    rw [pl_0 hk]
    unfold bnR
    rw [← bc, ur_ne _ _ (by omega)]
    unfold gvN
    split
    · rfl
    · simp only [gvR, jw, ur]
      grind
  refine ⟨?_, fun hc => ?_, fun hc => ?_⟩
  · refine ⟨ok_pl1 hk, ?_⟩
    rintro _ rfl
    refine ⟨ok_pl3 hk, ?_⟩
    rintro _ rfl
    rw [p1]
    refine ⟨ok_of1 h1 hn, ?_⟩
    rintro _ rfl
    refine ⟨ok_of2 h1 hn, ?_⟩
    rintro _ rfl
    rw [p3]
    refine ⟨fun _ => ⟨fun _ => ⟨oam, ?_⟩, fun h9 => absurd rfl h9⟩, fun _ => ⟨fun h9 => absurd h9 (by decide), fun _ => ⟨c1.2, ?_⟩⟩⟩
    · rintro _ rfl
      rw [am]
      refine ⟨gv.2, ?_⟩
      rintro _ rfl
      rintro _ rfl
      rw [gv.1]
      simp only [ixl, ma_rs0, sma_rs, bc]
      refine ⟨fun _ => ⟨ok_pl0 hk, ?_⟩, fun _ => ?_⟩
      · rintro _ rfl
        refine ⟨fun _ => ?_, fun _ => ?_⟩
        · rintro _ rfl
          exact nar01 (Or.inl rfl)
        · rintro _ rfl
          exact nar01 (Or.inl rfl)
      · rintro _ rfl
        exact nar01 (Or.inl rfl)
    · rintro _ rfl
      rw [c1.1]
      refine ⟨ok_pl2 hk, ?_⟩
      rintro _ rfl
      rw [q2]
      refine ⟨c2.2, ?_⟩
      rintro _ rfl
      rintro _ rfl
      simp only [f_X7_accountAt, oacc, oad3, e15]
      refine ⟨v15, ?_⟩
      rintro _ rfl
      rintro _ rfl
      rw [c2.1]
      simp only [sma_rs]
      refine ⟨(wri_R _ _ _ _ _).2, ?_⟩
      rintro _ rfl
      exact nar01 (Or.inr rfl)
  · unfold cov at hc
    simp only [f_X7_isMoved, nm_eq, p1, p3, of_1 h1 hn hi, of_2 h1 hn hi, if_neg hc, f_X7_isMoved_J37, i10, if_false, c1.1, q2, c2.1, f_X7_accountAt, oacc, oad3, e15, x15, ixl, ma_rs0, sma_rs, (wri_R _ _ _ _ _).1]
    rfl
  · unfold cov at hc
    have hc2 := Classical.not_not.mp hc
    simp only [f_X7_isMoved, nm_eq, p1, p3, of_1 h1 hn hi, of_2 h1 hn hi, if_pos hc2, f_X7_isMoved_J37, if_true, am, gv.1, ixl, ma_rs0, sma_rs, bc]
    have eb : gvN (ur R 10 (R 10 + 1)) i 102 (mn 3 (R (13 + 4 * i) + R (14 + 4 * i))) = bnR R i := rfl
    rw [eb]
    simp only [q0, mi_rs, f_X7_isMoved_J145, nm_eq, smi_rs]
    unfold hbw
    by_cases z : mi M 10 = 0
    · by_cases z2 : R (44 + 5 * k) = mi M 9
      · simp only [if_pos z, if_pos z2]
      · simp only [if_pos z, if_neg z2]
    · simp only [if_neg z]
theorem cov_C {f n s kp c p i t m a : Nat} {B : StB} {R : Nat → Int32} {y : Int32} (hT : Ti f n s kp c B p R) (hA : bA n t a R) (hi : i < n) (hb : (R (13 + 4 * i)).toInt ≤ 100000000) (hs : s < c) (e1 : R (45 + 5 * kp) = Int32.ofNat i) (e3 : R (47 + 5 * kp) = y) (y1 : 1 ≤ y.toInt) (y2 : y.toInt ≤ 999) : ok_X3_covers p B (Int32.ofNat s) ∧ (cov R i y → f_X3_covers p B (Int32.ofNat s) = 1) ∧ (¬ cov R i y → f_X3_covers p B (Int32.ofNat s) = 0) := by
  have b := bA_at hA hi
  obtain ⟨cc1, cc2, cc3, cc4, cc5, cc6, cc7⟩ := Ti_c hT
  have hx : ix (Int32.ofNat s) = s := ix_o (by omega)
  have hv : vp_in (Int32.ofNat s) 10 := in_o (by omega) (by omega)
  have tp := Ti_p hT (k := 0) (by omega)
  simp only [Nat.add_zero] at tp
  have t8 : ba B (p + 8) s = Int32.ofNat i := tp.2.1.trans e1
  have t10 : ba B (p + 10) s = y := tp.2.2.2.1.trans e3
  obtain ⟨av, oav⟩ := av_C hT hi
  have hneg : ¬ Int32.ofNat s < 0 := by
    rw [show (0 : Int32) = Int32.ofNat 0 from rfl, lt_ofN (by omega) (by omega)]
    omega
  have vs : (R (13 + 4 * i) + R (14 + 4 * i)).toInt = (R (13 + 4 * i)).toInt + (R (14 + 4 * i)).toInt := i32_add (by omega) (by omega)
  have vm : (R (13 + 4 * i) - y).toInt = (R (13 + 4 * i)).toInt - y.toInt := i32_sub (by omega) (by omega)
  have vn : (-R (14 + 4 * i)).toInt = -(R (14 + 4 * i)).toInt := i32_neg (by omega)
  have ef : f_X3_covers p B (Int32.ofNat s) = if R (13 + 4 * i) + R (14 + 4 * i) < y then 0 else 1 := by
    simp only [f_X3_covers, if_neg hneg, nm_eq, hx, t8, av, t10]
  refine ⟨⟨fun _ => trivial, fun _ => ⟨hv, ?_⟩⟩, fun h => ?_, fun h => ?_⟩
  · rw [hx, t8]
    refine ⟨oav, ?_⟩
    rintro _ rfl
    exact hv
  · unfold cov at h
    rw [i32_lt] at h
    rw [ef, if_neg (by rw [i32_lt]; omega)]
  · unfold cov at h
    have h := Classical.not_not.mp h
    rw [i32_lt] at h
    rw [ef, if_pos (by rw [i32_lt]; omega)]
/-- the class settles -/
theorem set_C {e D f n s kp c p i j a m t : Nat} {B : StB} {R : Nat → Int32} {y : Int32} (hT : Ti f n s kp c B p R) (hR : RB e D n t m a R) (hi : i < n) (hj : j < n) (hs : s < c) (e1 : R (45 + 5 * kp) = Int32.ofNat i) (e2 : R (46 + 5 * kp) = Int32.ofNat j) (e3 : R (47 + 5 * kp) = y) (y1 : 1 ≤ y.toInt) (y2 : y.toInt ≤ 999) (ha8 : a ≤ 8) : ok_X3_settle p B (Int32.ofNat s) ∧ (cov R i y → (f_X3_settle p B (Int32.ofNat s)).1 = 1 ∧ Ti f n s kp c (f_X3_settle p B (Int32.ofNat s)).2 p (mvR R i j y)) ∧ (¬ cov R i y → (f_X3_settle p B (Int32.ofNat s)).1 = 0 ∧ Ti f n s kp c (f_X3_settle p B (Int32.ofNat s)).2 p (bnR R i)) ∧ Fr p B (f_X3_settle p B (Int32.ofNat s)).2 := by
  have hA := hR.1
  have hS := hR.2.2
  have hn : n ≤ 8 := hA.1
  have b := bA_at hA hi
  have l := lit
  unfold bS at hS
  have hb : (R (13 + 4 * i)).toInt ≤ 100000000 := by
    have b8 := b.2.2.2.2.2.2.2
    split at b8 <;> omega
  obtain ⟨cc1, cc2, cc3, cc4, cc5, cc6, cc7⟩ := Ti_c hT
  obtain ⟨ocv, cv1, cv0⟩ := cov_C (m := m) hT hA hi hb hs e1 e3 y1 y2
  have hx : ix (Int32.ofNat s) = s := ix_o (by omega)
  have hv : vp_in (Int32.ofNat s) 10 := in_o (by omega) (by omega)
  have hxi : ix (Int32.ofNat i) = i := ix_o (by omega)
  have hvi : vp_in (Int32.ofNat i) 8 := in_o (by omega) (by omega)
  have hxj : ix (Int32.ofNat j) = j := ix_o (by omega)
  have hvj : vp_in (Int32.ofNat j) 8 := in_o (by omega) (by omega)
  have tp := Ti_p hT (k := 0) (by omega)
  simp only [Nat.add_zero] at tp
  have t8 : ba B (p + 8) s = Int32.ofNat i := tp.2.1.trans e1
  have t9 : ba B (p + 9) s = Int32.ofNat j := tp.2.2.1.trans e2
  have t10 : ba B (p + 10) s = y := tp.2.2.2.1.trans e3
  by_cases hc : cov R i y
  · have g1 : 1 ≤ y := by
      rw [i32_le]
      omega
    have e7 : ur (ur (ur R (13 + 4 * i) (R (13 + 4 * i) + -y)) (13 + 4 * j) (ur R (13 + 4 * i) (R (13 + 4 * i) + -y) (13 + 4 * j) + y)) (15 + 4 * i) 1 7 = R 7 := by
      rw [ur_ne _ _ (by omega), ur_ne _ _ (by omega), ur_ne _ _ (by omega)]
    have h1 := Ti_bal (-y) hT hi
    have h2 := Ti_bal y h1 hj
    have h3 := Ti_tch (v := 1) h2 hi (Or.inr rfl)
    have h4 := Ti_trf y h3 (by rw [e7]; omega) (by rw [e7]; omega)
    have h5 := Ti_jw (k := 116) (a := y) (u := Int32.ofNat i) h4 (by unfold jk; simp) g1
    have t9' : ba (sba B (p + 3) i (ba B (p + 3) i + -y)) (p + 9) s = Int32.ofNat j := by
      rw [ba_sba, if_neg (by omega)]
      exact t9
    have ef : f_X3_settle p B (Int32.ofNat s) = (1, f_X2_add (p + 12) (sbl (sba (sba (sba B (p + 3) i (ba B (p + 3) i + -y)) (p + 3) j (ba (sba B (p + 3) i (ba B (p + 3) i + -y)) (p + 3) j + y)) (p + 5) i (vp_nar .boolean 1)) p 8 (bl (sba (sba (sba B (p + 3) i (ba B (p + 3) i + -y)) (p + 3) j (ba (sba B (p + 3) i (ba B (p + 3) i + -y)) (p + 3) j + y)) (p + 5) i (vp_nar .boolean 1)) p 8 + y.toInt64)) 116 y (Int32.ofNat i)) := by
      simp only [f_X3_settle, nm_eq, hx, t8, cv1 hc, i10, if_false, t10, hxi, Int32.sub_eq_add_neg, t9', hxj]
    have eo : ok_X3_settle p B (Int32.ofNat s) := by
      refine ⟨hv, ?_⟩
      rintro _ rfl
      rw [hx, t8]
      refine ⟨ocv, ?_⟩
      rintro _ rfl
      rw [cv1 hc]
      refine ⟨fun h9 => absurd h9 (by decide), fun _ => ⟨hv, ?_⟩⟩
      rintro _ rfl
      rw [t10]
      refine ⟨hvi, hvi, ?_⟩
      rintro _ rfl
      simp only [hxi, Int32.sub_eq_add_neg, t9', hxj]
      refine ⟨hv, hvj, hvj, ?_⟩
      rintro _ rfl
      refine ⟨hvi, ?_⟩
      rintro _ rfl
      rintro _ rfl
      exact h5.2.1
    rw [ef]
    exact ⟨eo, fun _ => ⟨rfl, h5.1⟩, fun h9 => absurd hc h9, h5.2.2 B (Fr_l0 (Fr_a (Fr_a (Fr_a (Fr_r p B) 3 _ _ (by decide)) 3 _ _ (by decide)) 5 _ _ (by decide)) _ _)⟩
  · have va : (R (13 + 4 * i) + R (14 + 4 * i)).toInt = (R (13 + 4 * i)).toInt + (R (14 + 4 * i)).toInt := i32_add (by omega) (by omega)
    have hm := mn_t 3 (R (13 + 4 * i) + R (14 + 4 * i))
    have hm0 : 0 ≤ (mn 3 (R (13 + 4 * i) + R (14 + 4 * i))).toInt ∧ (mn 3 (R (13 + 4 * i) + R (14 + 4 * i))).toInt ≤ 3 := by
      rw [hm]
      split <;> omega
    have h1 := Ti_bnc 1 hT
    have u9 : ur R 10 (R 10 + 1) 9 = R 9 := ur_ne _ _ (by omega)
    have u13 : ur R 10 (R 10 + 1) (13 + 4 * i) = R (13 + 4 * i) := ur_ne _ _ (by omega)
    have u14 : ur R 10 (R 10 + 1) (14 + 4 * i) = R (14 + 4 * i) := ur_ne _ _ (by omega)
    obtain ⟨c1, c2, c3⟩ := coll (kd := 102) (amt := 3) (d := mn 3 (R (13 + 4 * i) + R (14 + 4 * i))) h1 hi (by unfold jk; simp) hm0.1 (by rw [u13, u14]) (by rw [u9]; omega) (by rw [u9]; omega)
    have ef : f_X3_settle p B (Int32.ofNat s) = (0, f_X3_collect p (sbi B p 5 (bi B p 5 + 1)) 102 3 (Int32.ofNat i)) := by
      simp only [f_X3_settle, nm_eq, hx, t8, cv0 hc, if_true]
    have eo : ok_X3_settle p B (Int32.ofNat s) := by
      refine ⟨hv, ?_⟩
      rintro _ rfl
      rw [hx, t8]
      refine ⟨ocv, ?_⟩
      rintro _ rfl
      rw [cv0 hc]
      refine ⟨fun _ => ?_, fun h9 => absurd rfl h9⟩
      rintro _ rfl
      exact c2
    rw [ef]
    exact ⟨eo, fun h9 => absurd h9 hc, fun _ => ⟨rfl, c1⟩, Fr_t (Fr_i0 (Fr_r p B) _ _) c3⟩
/-! bounds -/
theorem RB_drop {e D n t m a k : Nat} {R : Nat → Int32} (h : RB e D n t m a R) (hk : k < t) (hm : m ≤ k) : RB e D n (t - 1) m a (dw R k) := by
  obtain ⟨hA, ⟨t1, t2, t3, t4, t5⟩, hS⟩ := h
  have hn : n ≤ 8 := hA.1
  have lo : ∀ j, j < 44 → j ≠ 3 → dw R k j = R j := by
    intro j a1 a2
    simp only [dw]
    rw [if_neg a2, if_neg (by omega)]
  have tr : ∀ q, q < t - 1 → ∃ q', q ≤ q' ∧ (q < k → q' = q) ∧ q' < t ∧ q' ≤ q + 1 ∧ (k ≤ q → q' = q + 1) ∧ dw R k (44 + 5 * q) = R (44 + 5 * q') ∧ dw R k (45 + 5 * q) = R (45 + 5 * q') ∧ dw R k (46 + 5 * q) = R (46 + 5 * q') ∧ dw R k (47 + 5 * q) = R (47 + 5 * q') ∧ dw R k (48 + 5 * q) = R (48 + 5 * q') := by
    intro q hq
    by_cases hqk : q < k
    · refine ⟨q, by omega, fun _ => rfl, by omega, by omega, fun h9 => by omega, ?_⟩
      simp only [dw]
      rw [if_neg (by omega), if_neg (by omega), if_neg (by omega), if_neg (by omega), if_neg (by omega), if_neg (by omega), if_neg (by omega), if_neg (by omega), if_neg (by omega), if_neg (by omega)]
      exact ⟨rfl, rfl, rfl, rfl, rfl⟩
    · refine ⟨q + 1, by omega, fun h9 => by omega, by omega, by omega, fun _ => rfl, ?_⟩
      simp only [dw]
      rw [if_neg (by omega), if_pos (by omega), if_neg (by omega), if_pos (by omega), if_neg (by omega), if_pos (by omega), if_neg (by omega), if_pos (by omega), if_neg (by omega), if_pos (by omega)]
      refine ⟨congrArg R (by omega), congrArg R (by omega), congrArg R (by omega), congrArg R (by omega), congrArg R (by omega)⟩
  refine ⟨⟨hn, by rw [lo 1 (by omega) (by omega)]; exact hA.2.1, fun i hi => ?_⟩, ⟨by omega, ?_, fun q hq => ?_, fun q hq hq2 => ?_, fun q r hqr hr => ?_⟩, ?_⟩
  · have b := bA_at hA hi
    rw [lo (12 + 4 * i) (by omega) (by omega), lo (13 + 4 * i) (by omega) (by omega), lo (14 + 4 * i) (by omega) (by omega), lo (15 + 4 * i) (by omega) (by omega), lo 2 (by omega) (by omega), lo 0 (by omega) (by omega)]
    refine ⟨b.1, b.2.1, b.2.2.1, b.2.2.2.1, b.2.2.2.2.1, b.2.2.2.2.2.1, b.2.2.2.2.2.2.1, ?_⟩
    have b8 := b.2.2.2.2.2.2.2
    split at b8 <;> split <;> omega
  · simp only [dw, if_true]
    rw [t2, osu1 (by omega)]
  · obtain ⟨q', z1, z2, z3, z4, z5, w0, w1, w2, w3, w4⟩ := tr q hq
    rw [w0, w1, w2, w3, w4, lo 2 (by omega) (by omega), lo 0 (by omega) (by omega)]
    exact t3 q' z3
  · obtain ⟨q', z1, z2, z3, z4, z5, w0, w1, w2, w3, w4⟩ := tr q hq2
    rw [w4, lo 0 (by omega) (by omega)]
    exact t4 q' (by have := z2 (by omega); omega) z3
  · obtain ⟨q', z1, z2, z3, z4, z5, w0, w1, w2, w3, w4⟩ := tr q (by omega)
    obtain ⟨r', y1, y2, y3, y4, y5, x0, x1, x2, x3, x4⟩ := tr r hr
    rw [w0, x0]
    exact t5 q' r' (by omega) y3
  · unfold bS at hS ⊢
    rw [lo 0 (by omega) (by omega), lo 2 (by omega) (by omega), lo 5 (by omega) (by omega), lo 6 (by omega) (by omega), lo 7 (by omega) (by omega), lo 8 (by omega) (by omega), lo 9 (by omega) (by omega)]
    omega
theorem dw_lo (R : Nat → Int32) (k : Nat) {q : Nat} (h : q < 44) (h3 : q ≠ 3) : dw R k q = R q := by
  simp only [dw]
  rw [if_neg h3, if_neg (by omega)]
theorem dw_ur (R : Nat → Int32) (k : Nat) (v : Int32) {q : Nat} (h : q < 44) (hq3 : q ≠ 3) : dw (ur R q v) k = ur (dw R k) q v := by
  funext j
  simp only [dw, ur]
  by_cases h3 : j = 3
  · subst h3
    rw [if_pos rfl, if_neg (Ne.symm hq3), if_neg (Ne.symm hq3), if_pos rfl]
  · by_cases hr : 44 + 5 * k ≤ j ∧ j < 89
    · rw [if_neg h3, if_pos hr, if_neg (by omega), if_neg (by omega), if_neg h3, if_pos hr]
    · rw [if_neg h3, if_neg hr]
      by_cases hq : j = q
      · rw [if_pos hq, if_pos hq]
      · rw [if_neg hq, if_neg hq, if_neg h3, if_neg hr]
theorem jw_lo (R : Nat → Int32) (a b u : Int32) {j : Nat} (h : j < 94) (h2 : j ≠ 11) : jw R a b u j = R j := by
  unfold jw
  rw [if_neg (by omega), if_neg (by omega), if_neg (by omega), if_neg h2, if_neg (by omega)]
theorem dw_jw (R : Nat → Int32) (k : Nat) (a b u : Int32) : dw (jw R a b u) k = jw (dw R k) a b u := by
  funext j
  by_cases h3 : j = 3
  · subst h3
    have e1 : dw (jw R a b u) k 3 = jw R a b u 3 - 1 := if_pos rfl
    have e2 : dw R k 3 = R 3 - 1 := if_pos rfl
    rw [e1, jw_lo _ _ _ _ (by omega) (by omega), jw_lo _ _ _ _ (by omega) (by omega), e2]
  · by_cases hr : 44 + 5 * k ≤ j ∧ j < 89
    · have e1 : dw (jw R a b u) k j = jw R a b u (j + 5) := by
        unfold dw
        rw [if_neg h3, if_pos hr]
      have e2 : dw R k j = R (j + 5) := by
        unfold dw
        rw [if_neg h3, if_pos hr]
      rw [e1, jw_lo _ _ _ _ (by omega) (by omega), jw_lo _ _ _ _ (by omega) (by omega), e2]
    · have e11 : dw R k 11 = R 11 := dw_lo R k (by omega) (by omega)
      have e : dw (jw R a b u) k j = jw R a b u j := by
        unfold dw
        rw [if_neg h3, if_neg hr]
      have ej : dw R k j = R j := by
        unfold dw
        rw [if_neg h3, if_neg hr]
      have e3 : 97 ≤ j → dw R k (j - 3) = R (j - 3) := fun h => by
        unfold dw
        rw [if_neg (by omega), if_neg (by omega)]
      rw [e]
      unfold jw
      rw [e11, ej]
      by_cases h97 : 97 ≤ j ∧ j < 124
      · rw [if_pos h97, if_pos h97, e3 h97.1]
      · rw [if_neg h97, if_neg h97]
theorem gvR_dw (R : Nat → Int32) (k i : Nat) (l d : Int32) (hi : i < 8) : gvR (dw R k) i l d = dw (gvR R i l d) k := by
  unfold gvR
  simp (disch := omega) only [dw_lo, ← dw_ur, ← dw_jw]
theorem gvN_dw (R : Nat → Int32) (k i : Nat) (l d : Int32) (hi : i < 8) : gvN (dw R k) i l d = dw (gvN R i l d) k := by
  unfold gvN
  split
  · rfl
  · exact gvR_dw R k i l d hi
theorem ur_comm (R : Nat → Int32) {a b : Nat} (h : a ≠ b) (v w : Int32) : ur (ur R a v) b w = ur (ur R b w) a v := by
  funext j
  simp only [ur]
  by_cases h1 : j = b
  · rw [if_pos h1, if_neg (by omega), if_pos h1]
  · rw [if_neg h1, if_neg h1]
theorem mvR_X (R : Nat → Int32) (i j : Nat) (y : Int32) (hi : i < 8) (hj : j < 8) : mvR R i j y = jw (ur (ur (ur (ur R (13 + 4 * i) (R (13 + 4 * i) + -y)) (15 + 4 * i) 1) (13 + 4 * j) (ur (ur R (13 + 4 * i) (R (13 + 4 * i) + -y)) (15 + 4 * i) 1 (13 + 4 * j) + y)) 7 (R 7 + y)) 116 y (Int32.ofNat i) := by
  unfold mvR
  rw [ur_ne (j := 7) (k := 15 + 4 * i) _ _ (by omega), ur_ne (j := 7) (k := 13 + 4 * j) _ _ (by omega), ur_ne (j := 7) (k := 13 + 4 * i) _ _ (by omega), ur_comm _ (a := 13 + 4 * j) (b := 15 + 4 * i) (by omega), ur_ne (j := 13 + 4 * j) (k := 15 + 4 * i) _ _ (by omega)]
theorem bn_RB {e D n t m a k i : Nat} {R : Nat → Int32} (h : RB e D n t m a R) (hk : k < t) (hm : m ≤ k) (hi : i < n) (ha8 : a ≤ 8) : RB e D n (t - 1) m a (dw (bnR R i) k) := by
  have hA := h.1
  have hT := h.2.1
  have hS := h.2.2
  have hn : n ≤ 8 := hA.1
  have b := bA_at hA hi
  have l := lit
  unfold bS at hS
  have hb : (R (13 + 4 * i)).toInt ≤ 100000000 := by
    have b8 := b.2.2.2.2.2.2.2
    split at b8 <;> omega
  have va : (R (13 + 4 * i) + R (14 + 4 * i)).toInt = (R (13 + 4 * i)).toInt + (R (14 + 4 * i)).toInt := i32_add (by omega) (by omega)
  have hmm := mn_t 3 (R (13 + 4 * i) + R (14 + 4 * i))
  have hm0 : 0 ≤ (mn 3 (R (13 + 4 * i) + R (14 + 4 * i))).toInt ∧ (mn 3 (R (13 + 4 * i) + R (14 + 4 * i))).toInt ≤ 3 ∧ (mn 3 (R (13 + 4 * i) + R (14 + 4 * i))).toInt ≤ (R (13 + 4 * i)).toInt + (R (14 + 4 * i)).toInt := by
    rw [hmm]
    split <;> omega
  have h1 := RB_drop h hk hm
  have ht10 := hT.1
  have ec : dw (bnR R i) k = gvN (ur (dw R k) 10 (R 10 + 1)) i 102 (mn 3 (R (13 + 4 * i) + R (14 + 4 * i))) := by
    unfold bnR
    rw [← gvN_dw _ _ _ _ _ (by omega), dw_ur _ _ _ (by omega) (by omega)]
  have lo : ∀ j, j < 44 → j ≠ 3 → dw R k j = R j := by
    intro j a1 a2
    simp only [dw]
    rw [if_neg a2, if_neg (by omega)]
  have h2 : RB e D n (t - 1) m a (ur (dw R k) 10 (R 10 + 1)) := by
    refine RB_acc h1 hi (Nat.le_refl a) (ur_ne _ _ (by omega)) (ur_ne _ _ (by omega)) (ur_ne _ _ (by omega)) (ur_ne _ _ (by omega)) (fun j a1 a2 => ur_ne _ _ (by omega)) (fun j a1 a2 a3 a4 a5 => ur_ne _ _ (by omega)) ?_ ?_
    · have b1 := bA_at h1.1 hi
      rw [ur_ne _ _ (by omega), ur_ne _ _ (by omega), ur_ne _ _ (by omega)]
      exact b1.2.2
    · have s1 := h1.2.2
      unfold bS at s1 ⊢
      rw [ur_ne _ _ (by omega), ur_ne _ _ (by omega), ur_ne _ _ (by omega), ur_ne _ _ (by omega), ur_ne _ _ (by omega), ur_ne _ _ (by omega), ur_ne _ _ (by omega)]
      exact s1
  rw [ec]
  refine gv_RB h2 hi (Nat.le_refl a) ha8 hm0.1 ?_ ?_
  · rw [ur_ne _ _ (by omega), ur_ne _ _ (by omega), lo _ (by omega) (by omega), lo _ (by omega) (by omega)]
    exact hm0.2.2
  · rw [ur_ne _ _ (by omega), ur_ne _ _ (by omega), ur_ne _ _ (by omega), lo _ (by omega) (by omega), lo _ (by omega) (by omega), lo _ (by omega) (by omega)]
    omega
theorem mv_RB {e D n t m a k i j : Nat} {R : Nat → Int32} {y : Int32} (h : RB e D n t m a R) (hk : k < t) (hm : m ≤ k) (hi : i < n) (hj : j < n) (y1 : 1 ≤ y.toInt) (y2 : y.toInt ≤ 999) (hc : cov R i y) (ha8 : a ≤ 8) : RB e D n (t - 1) m a (dw (mvR R i j y) k) := by
  have hA := h.1
  have hT := h.2.1
  have hS := h.2.2
  have hn : n ≤ 8 := hA.1
  have b := bA_at hA hi
  unfold bS at hS
  have hb : (R (13 + 4 * i)).toInt ≤ 100000000 := by
    have b8 := b.2.2.2.2.2.2.2
    split at b8 <;> omega
  have ht10 := hT.1
  have vm : (R (13 + 4 * i) - y).toInt = (R (13 + 4 * i)).toInt - y.toInt := i32_sub (by omega) (by omega)
  have vl : (-R (14 + 4 * i)).toInt = -(R (14 + 4 * i)).toInt := i32_neg (by omega)
  unfold cov at hc
  rw [i32_lt, vm, vl] at hc
  have v1 : (R (13 + 4 * i) + -y).toInt = (R (13 + 4 * i)).toInt - y.toInt := by
    rw [← Int32.sub_eq_add_neg]
    exact vm
  have h1 : RB e D n t m a (ur (ur R (13 + 4 * i) (R (13 + 4 * i) + -y)) (15 + 4 * i) 1) := by
    refine RB_acc h hi (Nat.le_refl a) ?_ ?_ ?_ ?_ (fun j a1 a2 => ?_) (fun j a1 a2 a3 a4 a5 => ?_) ?_ ?_
    · rw [ur_ne _ _ (by omega), ur_ne _ _ (by omega)]
    · rw [ur_ne _ _ (by omega), ur_ne _ _ (by omega)]
    · rw [ur_ne _ _ (by omega), ur_ne _ _ (by omega)]
    · rw [ur_ne _ _ (by omega), ur_ne _ _ (by omega)]
    · rw [ur_ne _ _ (by omega), ur_ne _ _ (by omega)]
    · rw [ur_ne _ _ (by omega), ur_ne _ _ (by omega)]
    · rw [ur_eq, ur_ne (j := 14 + 4 * i) _ _ (by omega), ur_ne (j := 14 + 4 * i) _ _ (by omega), ur_ne (j := 13 + 4 * i) _ _ (by omega), ur_eq, v1]
      refine ⟨Or.inr rfl, b.2.2.2.1, b.2.2.2.2.1, b.2.2.2.2.2.1, by omega, ?_⟩
      have b8 := b.2.2.2.2.2.2.2
      split at b8 <;> split <;> omega
    · have s1 := h.2.2
      unfold bS at s1 ⊢
      rw [ur_ne (j := 0) _ _ (by omega), ur_ne (j := 0) _ _ (by omega), ur_ne (j := 2) _ _ (by omega), ur_ne (j := 2) _ _ (by omega), ur_ne (j := 5) _ _ (by omega), ur_ne (j := 5) _ _ (by omega), ur_ne (j := 6) _ _ (by omega), ur_ne (j := 6) _ _ (by omega), ur_ne (j := 7) _ _ (by omega), ur_ne (j := 7) _ _ (by omega), ur_ne (j := 8) _ _ (by omega), ur_ne (j := 8) _ _ (by omega), ur_ne (j := 9) _ _ (by omega), ur_ne (j := 9) _ _ (by omega)]
      exact s1
  have h2 := RB_drop h1 hk hm
  have bj := bA_at h1.1 hj
  have s1 := h1.2.2
  have ec : dw (mvR R i j y) k = jw (ur (ur (dw (ur (ur R (13 + 4 * i) (R (13 + 4 * i) + -y)) (15 + 4 * i) 1) k) (13 + 4 * j) (ur (ur R (13 + 4 * i) (R (13 + 4 * i) + -y)) (15 + 4 * i) 1 (13 + 4 * j) + y)) 7 (R 7 + y)) 116 y (Int32.ofNat i) := by
    rw [mvR_X R i j y (by omega) (by omega), dw_jw, dw_ur _ _ _ (by omega) (by omega), dw_ur _ _ _ (by omega) (by omega)]
  generalize hX : ur (ur R (13 + 4 * i) (R (13 + 4 * i) + -y)) (15 + 4 * i) 1 = X at h1 h2 bj s1 ec
  have x0 : X 0 = R 0 := by rw [← hX, ur_ne _ _ (by omega), ur_ne _ _ (by omega)]
  have x2 : X 2 = R 2 := by rw [← hX, ur_ne _ _ (by omega), ur_ne _ _ (by omega)]
  have x7 : X 7 = R 7 := by rw [← hX, ur_ne _ _ (by omega), ur_ne _ _ (by omega)]
  have x0t : (X 0).toInt = (R 0).toInt := by rw [x0]
  have x2t : (X 2).toInt = (R 2).toInt := by rw [x2]
  have x7t : (X 7).toInt = (R 7).toInt := by rw [x7]
  rw [ec]
  unfold bS at s1
  have hbj : (X (13 + 4 * j)).toInt ≤ 100000000 := by
    have b8 := bj.2.2.2.2.2.2.2
    split at b8 <;> omega
  have vj : (X (13 + 4 * j) + y).toInt = (X (13 + 4 * j)).toInt + y.toInt := i32_add (by omega) (by omega)
  have v7 : (R 7 + y).toInt = (R 7).toInt + y.toInt := i32_add (by omega) (by omega)
  have lo : ∀ q, q < 44 → q ≠ 3 → dw X k q = X q := by
    intro q a1 a2
    simp only [dw]
    rw [if_neg a2, if_neg (by omega)]
  have qn : ∀ q, q < 94 → q ≠ 13 + 4 * j → q ≠ 7 → q ≠ 11 → jw (ur (ur (dw X k) (13 + 4 * j) (X (13 + 4 * j) + y)) 7 (R 7 + y)) 116 y (Int32.ofNat i) q = dw X k q := by
    intro q a1 a2 a3 a4
    simp only [jw]
    rw [if_neg (by omega), if_neg (by omega), if_neg (by omega), if_neg (by omega), if_neg (by omega), ur_ne _ _ (by omega), ur_ne _ _ (by omega)]
  have qb : jw (ur (ur (dw X k) (13 + 4 * j) (X (13 + 4 * j) + y)) 7 (R 7 + y)) 116 y (Int32.ofNat i) (13 + 4 * j) = X (13 + 4 * j) + y := by
    simp only [jw]
    rw [if_neg (by omega), if_neg (by omega), if_neg (by omega), if_neg (by omega), if_neg (by omega), ur_ne _ _ (by omega), ur_eq]
  have q7 : jw (ur (ur (dw X k) (13 + 4 * j) (X (13 + 4 * j) + y)) 7 (R 7 + y)) 116 y (Int32.ofNat i) 7 = R 7 + y := by
    simp only [jw]
    rw [if_neg (by omega), if_neg (by omega), if_neg (by omega), if_neg (by omega), if_neg (by omega), ur_eq]
  refine RB_acc h2 hj (Nat.le_refl a) (qn 0 (by omega) (by omega) (by omega) (by omega)) (qn 1 (by omega) (by omega) (by omega) (by omega)) (qn 2 (by omega) (by omega) (by omega) (by omega)) (qn 3 (by omega) (by omega) (by omega) (by omega)) (fun q a1 a2 => qn q a2 (by omega) (by omega) (by omega)) (fun q a1 a2 a3 a4 a5 => qn q (by omega) a3 (by omega) (by omega)) ?_ ?_
  · rw [qb, qn (14 + 4 * j) (by omega) (by omega) (by omega) (by omega), qn (15 + 4 * j) (by omega) (by omega) (by omega) (by omega), vj, lo _ (by omega) (by omega), lo _ (by omega) (by omega), lo _ (by omega) (by omega), lo _ (by omega) (by omega), lo _ (by omega) (by omega)]
    refine ⟨bj.2.2.1, bj.2.2.2.1, bj.2.2.2.2.1, bj.2.2.2.2.2.1, by omega, ?_⟩
    have b8 := bj.2.2.2.2.2.2.2
    split at b8 <;> split <;> omega
  · unfold bS
    rw [qn 0 (by omega) (by omega) (by omega) (by omega), qn 2 (by omega) (by omega) (by omega) (by omega), qn 5 (by omega) (by omega) (by omega) (by omega), qn 6 (by omega) (by omega) (by omega) (by omega), q7, qn 8 (by omega) (by omega) (by omega) (by omega), qn 9 (by omega) (by omega) (by omega) (by omega), v7, lo _ (by omega) (by omega), lo _ (by omega) (by omega), lo _ (by omega) (by omega), lo _ (by omega) (by omega), lo _ (by omega) (by omega), lo _ (by omega) (by omega)]
    omega
