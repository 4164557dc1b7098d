/-! the pure part: openings, seals, cancellations, days -/
def opnR (R : Nat → Int32) (n : Nat) (x : Int32) : Nat → Int32 := ur (ur (ur (ur (ur R (12 + 4 * n) x) (13 + 4 * n) 0) (14 + 4 * n) 0) (15 + 4 * n) 0) 1 (Int32.ofNat (n + 1))
theorem opn_at (R : Nat → Int32) (n : Nat) (x : Int32) : (∀ j, j ≠ 12 + 4 * n → j ≠ 13 + 4 * n → j ≠ 14 + 4 * n → j ≠ 15 + 4 * n → j ≠ 1 → opnR R n x j = R j) ∧ opnR R n x (12 + 4 * n) = x ∧ opnR R n x (13 + 4 * n) = 0 ∧ opnR R n x (14 + 4 * n) = 0 ∧ opnR R n x (15 + 4 * n) = 0 ∧ opnR R n x 1 = Int32.ofNat (n + 1) := by
  unfold opnR
  refine ⟨fun j a1 a2 a3 a4 a5 => ?_, ?_, ?_, ?_, ?_, ?_⟩
  · rw [ur_ne _ _ a5, ur_ne _ _ a4, ur_ne _ _ a3, ur_ne _ _ a2, ur_ne _ _ a1]
  · rw [ur_ne _ _ (by omega), ur_ne _ _ (by omega), ur_ne _ _ (by omega), ur_ne _ _ (by omega), ur_eq]
  · rw [ur_ne _ _ (by omega), ur_ne _ _ (by omega), ur_ne _ _ (by omega), ur_eq]
  · rw [ur_ne _ _ (by omega), ur_ne _ _ (by omega), ur_eq]
  · rw [ur_ne _ _ (by omega), ur_eq]
  · rw [ur_eq]
theorem opn_L (M : StM) (R : Nat → Int32) (n : Nat) (hn : n < 8) (h1 : R 1 = Int32.ofNat n) : f_X7_opens_L52 fu (rs M R) 1 = rs M (ur (ur (ur R (13 + 4 * n) 0) (14 + 4 * n) 0) (15 + 4 * n) 0) ∧ ok_X7_opens_L52 fu (rs M R) 1 := by
  have e1 : (1 : Int32) + 1 = 2 := by decide
  have e2 : (2 : Int32) + 1 = 3 := by decide
  have e3 : (3 : Int32) + 1 = 4 := by decide
  have c1 : ¬ (4 : Int32) ≤ 1 := by decide
  have c2 : ¬ (4 : Int32) ≤ 2 := by decide
  have c3 : ¬ (4 : Int32) ≤ 3 := by decide
  have c4 : (4 : Int32) ≤ 4 := by decide
  have k1 : 12 + 4 * n + 1 = 13 + 4 * n := by omega
  have k2 : 12 + 4 * n + 2 = 14 + 4 * n := by omega
  have k3 : 12 + 4 * n + 3 = 15 + 4 * n := by omega
  have x1 : ix (Int32.ofNat (13 + 4 * n)) = 13 + 4 * n := ix_o (by omega)
  have x2 : ix (Int32.ofNat (14 + 4 * n)) = 14 + 4 * n := ix_o (by omega)
  have x3 : ix (Int32.ofNat (15 + 4 * n)) = 15 + 4 * n := ix_o (by omega)
  have v1 : vp_in (Int32.ofNat (13 + 4 * n)) 124 := in_o (by omega) (by omega)
  have v2 : vp_in (Int32.ofNat (14 + 4 * n)) 124 := in_o (by omega) (by omega)
  have v3 : vp_in (Int32.ofNat (15 + 4 * n)) 124 := in_o (by omega) (by omega)
  have r1 : ur R (13 + 4 * n) 0 1 = Int32.ofNat n := by rw [ur_ne _ _ (by omega), h1]
  have r2 : ur (ur R (13 + 4 * n) 0) (14 + 4 * n) 0 1 = Int32.ofNat n := by rw [ur_ne _ _ (by omega), r1]
  have key : ∀ q, f_X7_opens_L52 (q + 1 + 1 + 1 + 1) (rs M R) 1 = rs M (ur (ur (ur R (13 + 4 * n) 0) (14 + 4 * n) 0) (15 + 4 * n) 0) ∧ ok_X7_opens_L52 (q + 1 + 1 + 1 + 1) (rs M R) 1 := by
    intro q
    refine ⟨?_, ?_⟩
    · simp only [f_X7_opens_L52, if_neg c1, if_neg c2, if_neg c3, if_pos c4, e1, e2, e3, nm_eq, f_X7_accountAt, ma_rs0, ixl, h1, oacc, oad1, oad2, oad3, k1, k2, k3, x1, x2, x3, sma_rs, r1, r2]
    · refine ⟨fun h9 => absurd h9 c1, fun _ => ?_⟩
      rintro _ rfl
      simp only [f_X7_accountAt, ma_rs0, ixl, h1, oacc, oad1, k1]
      refine ⟨v1, ?_⟩
      rintro _ rfl
      rw [x1, sma_rs, e1]
      refine ⟨fun h9 => absurd h9 c2, fun _ => ?_⟩
      rintro _ rfl
      simp only [f_X7_accountAt, ma_rs0, ixl, r1, oacc, oad2, k2]
      refine ⟨v2, ?_⟩
      rintro _ rfl
      rw [x2, sma_rs, e2]
      refine ⟨fun h9 => absurd h9 c3, fun _ => ?_⟩
      rintro _ rfl
      simp only [f_X7_accountAt, ma_rs0, ixl, r2, oacc, oad3, k3]
      refine ⟨v3, ?_⟩
      rintro _ rfl
      rw [x3, sma_rs, e3]
      exact ⟨fun _ => trivial, fun h9 => absurd c4 h9⟩
  exact key 3996
theorem opn_RB {e n t : Nat} {R : Nat → Int32} {x : Int32} (h : RB e (60 * e) n t 0 0 R) (he : e < 600) (hn : n < 8) (h1 : 0 ≤ x.toInt) (h2 : x.toInt ≤ 3) : RB (e + 1) (60 * (e + 1)) (n + 1) t 0 0 (opnR R n x) := by
  obtain ⟨hA, ⟨t1, t2, t3, t4, t5⟩, hS⟩ := h
  obtain ⟨qn, q12, q13, q14, q15, q1⟩ := opn_at R n x
  have l0 := lit.1
  refine ⟨⟨by omega, q1, fun i hi => ?_⟩, ⟨t1, by rw [qn 3 (by omega) (by omega) (by omega) (by omega) (by omega)]; exact t2, fun k hk => ?_, fun k hk => by omega, fun j k hj hk => ?_⟩, ?_⟩
  · rw [qn 0 (by omega) (by omega) (by omega) (by omega) (by omega), qn 2 (by omega) (by omega) (by omega) (by omega) (by omega)]
    by_cases hin : i = n
    · subst hin
      rw [q12, q13, q14, q15, l0]
      unfold bS at hS
      simp only [Nat.not_lt_zero, if_false]
      refine ⟨h1, h2, Or.inl trivial, by omega, by omega, fun _ => trivial, by omega, by omega⟩
    · rw [qn (12 + 4 * i) (by omega) (by omega) (by omega) (by omega) (by omega), qn (13 + 4 * i) (by omega) (by omega) (by omega) (by omega) (by omega), qn (14 + 4 * i) (by omega) (by omega) (by omega) (by omega) (by omega), qn (15 + 4 * i) (by omega) (by omega) (by omega) (by omega) (by omega)]
      exact bA_at hA (by omega)
  · rw [qn (44 + 5 * k) (by omega) (by omega) (by omega) (by omega) (by omega), qn (45 + 5 * k) (by omega) (by omega) (by omega) (by omega) (by omega), qn (46 + 5 * k) (by omega) (by omega) (by omega) (by omega) (by omega), qn (47 + 5 * k) (by omega) (by omega) (by omega) (by omega) (by omega), qn (48 + 5 * k) (by omega) (by omega) (by omega) (by omega) (by omega), qn 0 (by omega) (by omega) (by omega) (by omega) (by omega), qn 2 (by omega) (by omega) (by omega) (by omega) (by omega)]
    obtain ⟨⟨i, k1, k2⟩, ⟨j, k3, k4⟩, k5⟩ := t3 k hk
    exact ⟨⟨i, by omega, k2⟩, ⟨j, by omega, k4⟩, k5⟩
  · rw [qn (44 + 5 * j) (by omega) (by omega) (by omega) (by omega) (by omega), qn (44 + 5 * k) (by omega) (by omega) (by omega) (by omega) (by omega)]
    exact t5 j k hj hk
  · unfold bS at hS ⊢
    rw [qn 0 (by omega) (by omega) (by omega) (by omega) (by omega), qn 2 (by omega) (by omega) (by omega) (by omega) (by omega), qn 5 (by omega) (by omega) (by omega) (by omega) (by omega), qn 6 (by omega) (by omega) (by omega) (by omega) (by omega), qn 7 (by omega) (by omega) (by omega) (by omega) (by omega), qn 8 (by omega) (by omega) (by omega) (by omega) (by omega), qn 9 (by omega) (by omega) (by omega) (by omega) (by omega)]
    omega
def opnB (C : StB) (p n : Nat) (x : Int32) : StB := sbi (sba (sba (sba (sba C (p + 2) n x) (p + 3) n 0) (p + 4) n 0) (p + 5) n 0) (p + 1) 0 (Int32.ofNat (n + 1))
theorem opn_d {n t p : Nat} {C : StB} {R : Nat → Int32} (x : Int32) (hT : Ti 0 n 0 0 t C p R) (hn : n < 8) : ok_X0_add (p + 1) C x ∧ Fr p C (f_X0_add (p + 1) C x).2 ∧ Ti 0 (n + 1) 0 0 t (f_X0_add (p + 1) C x).2 p (opnR R n x) ∧ (f_X0_add (p + 1) C x).1 = Int32.ofNat n := by
  obtain ⟨b1, b2, b3⟩ := Ti_n hT
  have hx : ix (Int32.ofNat n) = n := ix_o (by omega)
  have hv : vp_in (Int32.ofNat n) 8 := in_o (by omega) (by omega)
  have p1 : p + 1 + 1 = p + 2 := by omega
  have p2 : p + 1 + 2 = p + 3 := by omega
  have p3 : p + 1 + 3 = p + 4 := by omega
  have p4 : p + 1 + 4 = p + 5 := by omega
  have ef : f_X0_add (p + 1) C x = (Int32.ofNat n, opnB C p n x) := by
    simp only [f_X0_add, nm_eq, b1, hx, p1, p2, p3, p4, vn01 (r := 0) (Or.inl rfl), bi_sba, oad1, opnB]
  rw [ef]
  obtain ⟨qn, q12, q13, q14, q15, q1⟩ := opn_at R n x
  have hb : ∀ d k, d ≠ 2 → d ≠ 3 → d ≠ 4 → d ≠ 5 → ba (opnB C p n x) (p + d) k = ba C (p + d) k := fun d k a1 a2 a3 a4 => by
    unfold opnB
    rw [ba_sbi, ba_sba, if_neg (by omega), ba_sba, if_neg (by omega), ba_sba, if_neg (by omega), ba_sba, if_neg (by omega)]
  have hi : ∀ d k, d ≠ 1 → bi (opnB C p n x) (p + d) k = bi C (p + d) k := fun d k a1 => by
    unfold opnB
    rw [bi_sbi, if_neg (by omega), bi_sba, bi_sba, bi_sba, bi_sba]
  have hl : ∀ k, bl (opnB C p n x) p k = bl C p k := fun k => rfl
  have hi0 : ∀ k, bi (opnB C p n x) p k = bi C p k := fun k => hi 0 k (by decide)
  obtain ⟨hA, ⟨t0, t1, t2, t3, t4, t5, t6, t7, t8⟩, ⟨L, w, hJ⟩, hS⟩ := hT
  refine ⟨?_, ?_, ⟨⟨?_, q1, by omega, fun i hi => ?_, fun i hi => ?_, fun i hi => ?_, fun i hi => ?_⟩, ⟨?_, ?_, t2, t3, t4, t5, ?_, fun k hk => by omega, fun k hk => ?_⟩, ⟨L, w, ?_⟩, ?_⟩, rfl⟩
  · rintro _ rfl
    rw [b1]
    refine ⟨hv, ?_⟩
    rintro _ rfl
    refine ⟨hv, ?_⟩
    rintro _ rfl
    refine ⟨hv, ?_⟩
    rintro _ rfl
    exact hv
  · exact Fr_i (Fr_a (Fr_a (Fr_a (Fr_a (Fr_r p C) 2 _ _ (by decide)) 3 _ _ (by decide)) 4 _ _ (by decide)) 5 _ _ (by decide)) 1 _ _ (by decide)
  · unfold opnB
    rw [bi_sbi, if_pos ⟨rfl, rfl⟩]
  · unfold opnB
    rw [ba_sbi, ba_sba, if_neg (by omega), ba_sba, if_neg (by omega), ba_sba, if_neg (by omega), ba_sba]
    by_cases hin : i = n
    · subst hin
      rw [if_pos ⟨rfl, rfl⟩, q12]
    · rw [if_neg (by omega), qn (12 + 4 * i) (by omega) (by omega) (by omega) (by omega) (by omega)]
      exact hA.2.2.2.1 i (by omega)
  · unfold opnB
    rw [ba_sbi, ba_sba, if_neg (by omega), ba_sba, if_neg (by omega), ba_sba]
    by_cases hin : i = n
    · subst hin
      rw [if_pos ⟨rfl, rfl⟩, q13]
    · rw [if_neg (by omega), ba_sba, if_neg (by omega), qn (13 + 4 * i) (by omega) (by omega) (by omega) (by omega) (by omega)]
      exact hA.2.2.2.2.1 i (by omega)
  · unfold opnB
    rw [ba_sbi, ba_sba, if_neg (by omega), ba_sba]
    by_cases hin : i = n
    · subst hin
      rw [if_pos ⟨rfl, rfl⟩, q14]
    · rw [if_neg (by omega), ba_sba, if_neg (by omega), ba_sba, if_neg (by omega), qn (14 + 4 * i) (by omega) (by omega) (by omega) (by omega) (by omega)]
      exact hA.2.2.2.2.2.1 i (by omega)
  · unfold opnB
    rw [ba_sbi, ba_sba]
    by_cases hin : i = n
    · subst hin
      rw [if_pos ⟨rfl, rfl⟩, q15]
    · rw [if_neg (by omega), ba_sba, if_neg (by omega), ba_sba, if_neg (by omega), ba_sba, if_neg (by omega), qn (15 + 4 * i) (by omega) (by omega) (by omega) (by omega) (by omega)]
      exact hA.2.2.2.2.2.2 i (by omega)
  · rw [hi 6 0 (by decide)]
    exact t0
  · rw [qn 3 (by omega) (by omega) (by omega) (by omega) (by omega)]
    exact t1
  · rw [hi 6 1 (by decide), qn 2 (by omega) (by omega) (by omega) (by omega) (by omega)]
    exact t6
  · have hu : ∀ q, 44 ≤ q → opnR R n x q = R q := fun q hq => qn q (by omega) (by omega) (by omega) (by omega) (by omega)
    simp (disch := omega) only [hu, hb]
    exact t8 k hk
  · have hu : ∀ q, 44 ≤ q → opnR R n x q = R q := fun q hq => qn q (by omega) (by omega) (by omega) (by omega) (by omega)
    have hu2 : opnR R n x 11 = R 11 := qn 11 (by omega) (by omega) (by omega) (by omega) (by omega)
    simp (disch := omega) only [hu, hu2, hb, hi]
    exact hJ
  · unfold TiS at hS ⊢
    rw [hi0, hi0, hi0, hl, hl, hl, hl, hl, qn 0 (by omega) (by omega) (by omega) (by omega) (by omega), qn 4 (by omega) (by omega) (by omega) (by omega) (by omega), qn 10 (by omega) (by omega) (by omega) (by omega) (by omega), qn 5 (by omega) (by omega) (by omega) (by omega) (by omega), qn 6 (by omega) (by omega) (by omega) (by omega) (by omega), qn 7 (by omega) (by omega) (by omega) (by omega) (by omega), qn 8 (by omega) (by omega) (by omega) (by omega) (by omega), qn 9 (by omega) (by omega) (by omega) (by omega) (by omega)]
    exact hS
theorem CS_opn {e n t p : Nat} {B : StB} {R : Nat → Int32} (M : StM) (x : Int32) (hT : Ti 0 n 0 0 t B p R) (hR : RB e (60 * e) n t 0 0 R) (he : e < 600) : CS e n t p B R M (f_X3_openFault p B x) True (fun C => f_X0_add (p + 1) C x) (fun C => ok_X0_add (p + 1) C x) (f_X7_opens (rs M R) x) (ok_X7_opens (rs M R) x) [2, 4] := by
  obtain ⟨b1, b2, b3⟩ := Ti_n hT
  have l := lit
  have w8 : ((8 : Int32) ≤ R 1) ↔ 8 ≤ n := by
    rw [b2]
    exact le_ofN (a := 8) (by decide) (by omega)
  have w8b : (bi B (p + 1) 0 < 8) ↔ n < 8 := by
    rw [b1]
    exact lt_ofN (b := 8) (by omega) (by decide)
  have ok23 : ∀ s0 s1, (s0 = 1 → n < 8) → (s0 = 0 ∨ s0 = 1) → (s1 = 0 ∨ s1 = 1) → ok_X7_opens_J23 (rs M R) x s0 s1 := by
    intro s0 s1 h8 a0 a1
    rintro _ rfl
    rcases a1 with rfl | rfl
    · simp only [holds_1, true_implies, not_true_eq_false, false_implies, and_self]
    · rcases a0 with rfl | rfl
      · simp only [holds_2, true_implies, not_true_eq_false, false_implies, and_self]
      · have h8 := h8 rfl
        rw [holds_0]
        refine ⟨fun _ => trivial, fun _ => ?_⟩
        rintro _ rfl
        simp only [smi_rs, f_X7_accountAt, ma_rs0, ixl, b2, oacc, oad0]
        refine ⟨in_o (by omega) (by omega), ?_⟩
        rintro _ rfl
        rw [ix_o (by omega), sma_rs]
        refine (opn_L _ _ n h8 ?_).2
        rw [ur_ne _ _ (by omega), b2]
  have okm : ok_X7_opens (rs M R) x := by
    rintro _ rfl
    simp only [ma_rs0, ixl]
    exact ⟨fun _ => ok23 0 _ (fun h => absurd h (by decide)) (Or.inl rfl) (isIn01 _ _ _), fun h => ok23 1 _ (fun _ => by have := mt w8.mpr h; omega) (Or.inr rfl) (isIn01 _ _ _)⟩
  refine ⟨trivial, okm, ?_⟩
  rcases isIn_c x 0 3 with ⟨hy, y1, y2⟩ | ⟨hy, _⟩
  · by_cases h8 : n < 8
    · right
      have em : f_X7_opens (rs M R) x = (Int32.ofNat n, rs (smi M 15 0) (opnR R n x)) := by
        have hw : ¬ (8 : Int32) ≤ Int32.ofNat n := by
          rw [← b2, w8]
          omega
        have o1 : Int32.ofNat (n + 1) - 1 = Int32.ofNat n := osu1 (by omega)
        have hu : ur R (12 + 4 * n) x 1 = Int32.ofNat n := by rw [ur_ne _ _ (by omega), b2]
        have eL := (opn_L (smi M 15 0) (ur R (12 + 4 * n) x) n h8 hu).1
        have u1 : ur (ur (ur (ur R (12 + 4 * n) x) (13 + 4 * n) 0) (14 + 4 * n) 0) (15 + 4 * n) 0 1 = Int32.ofNat n := by
          rw [ur_ne _ _ (by omega), ur_ne _ _ (by omega), ur_ne _ _ (by omega), hu]
        have xx : ix (Int32.ofNat (12 + 4 * n)) = 12 + 4 * n := ix_o (by omega)
        simp only [f_X7_opens, f_X7_opens_J23, nm_eq, hy, ma_rs0, ixl, if_neg hw, holds_0, i10, if_false, smi_rs, f_X7_accountAt, b2, oacc, oad0, xx, sma_rs, eL, u1, ur_eq, oad1, o1]
        rfl
      rw [em]
      refine ⟨?_, n + 1, t, opnR R n x, mi M 10, by rw [← smi10], opn_RB hR he h8 (by omega) (by omega), fun C hC => ?_⟩
      · simp only [f_X3_openFault, nm_eq, isIn_6, hy, i10, if_false, if_pos (w8b.mpr h8)]
      · obtain ⟨d1, d2, d3, d4⟩ := opn_d x hC h8
        exact ⟨d1, d2, d3, d4⟩
    · left
      refine ⟨1, ?_, ?_⟩
      · simp only [f_X3_openFault, nm_eq, isIn_6, hy, i10, if_false, if_neg (mt w8b.mp h8)]
        rfl
      · simp only [f_X7_opens, f_X7_opens_J23, nm_eq, hy, ma_rs0, ixl, if_pos (w8.mpr (by omega)), holds_2, if_true]
        rfl
  · left
    refine ⟨0, ?_, ?_⟩
    · simp only [f_X3_openFault, nm_eq, isIn_6, hy, if_true]
      rfl
    · simp only [f_X7_opens, f_X7_opens_J23, nm_eq, hy, holds_1, if_true, ite_self]
      rfl
/-! seals -/
def selR (R : Nat → Int32) (t : Nat) (x0 x1 x2 x3 : Int32) : Nat → Int32 := ur (ur (ur (ur (ur (ur (ur R (44 + 5 * t) (R 2)) (45 + 5 * t) x0) (46 + 5 * t) x1) (47 + 5 * t) x2) (48 + 5 * t) (R 0 + x3)) 3 (Int32.ofNat (t + 1))) 2 (R 2 + 1)
theorem sel_at (R : Nat → Int32) (t : Nat) (x0 x1 x2 x3 : Int32) : (∀ j, (j < 44 ∨ 49 + 5 * t ≤ j ∨ (44 ≤ j ∧ j < 44 + 5 * t)) → j ≠ 3 → j ≠ 2 → selR R t x0 x1 x2 x3 j = R j) ∧ selR R t x0 x1 x2 x3 (44 + 5 * t) = R 2 ∧ selR R t x0 x1 x2 x3 (45 + 5 * t) = x0 ∧ selR R t x0 x1 x2 x3 (46 + 5 * t) = x1 ∧ selR R t x0 x1 x2 x3 (47 + 5 * t) = x2 ∧ selR R t x0 x1 x2 x3 (48 + 5 * t) = R 0 + x3 ∧ selR R t x0 x1 x2 x3 3 = Int32.ofNat (t + 1) ∧ selR R t x0 x1 x2 x3 2 = R 2 + 1 := by
  unfold selR
  refine ⟨fun j a1 a2 a3 => ?_, ?_, ?_, ?_, ?_, ?_, ?_, ?_⟩
  · rw [ur_ne _ _ a3, ur_ne _ _ a2, ur_ne _ _ (by omega), ur_ne _ _ (by omega), ur_ne _ _ (by omega), ur_ne _ _ (by omega), ur_ne _ _ (by omega)]
  · rw [ur_ne _ _ (by omega), ur_ne _ _ (by omega), ur_ne _ _ (by omega), ur_ne _ _ (by omega), ur_ne _ _ (by omega), ur_ne _ _ (by omega), ur_eq]
  · rw [ur_ne _ _ (by omega), ur_ne _ _ (by omega), ur_ne _ _ (by omega), ur_ne _ _ (by omega), ur_ne _ _ (by omega), ur_eq]
  · rw [ur_ne _ _ (by omega), ur_ne _ _ (by omega), ur_ne _ _ (by omega), ur_ne _ _ (by omega), ur_eq]
  · rw [ur_ne _ _ (by omega), ur_ne _ _ (by omega), ur_ne _ _ (by omega), ur_eq]
  · rw [ur_ne _ _ (by omega), ur_ne _ _ (by omega), ur_eq]
  · rw [ur_ne _ _ (by omega), ur_eq]
  · rw [ur_eq]
theorem sel_RB {e n t i j : Nat} {R : Nat → Int32} {x2 x3 : Int32} (h : RB e (60 * e) n t 0 0 R) (he : e < 600) (ht : t < 10) (hi : i < n) (hj : j < n) (h1 : 1 ≤ x2.toInt) (h2 : x2.toInt ≤ 999) (h3 : 0 ≤ x3.toInt) (h4 : x3.toInt ≤ 60) : RB (e + 1) (60 * (e + 1)) n (t + 1) 0 0 (selR R t (Int32.ofNat i) (Int32.ofNat j) x2 x3) := by
  obtain ⟨hA, ⟨t1, t2, t3, t4, t5⟩, hS⟩ := h
  obtain ⟨qn, qa, qb, qc, qd, qe, q3, q2⟩ := sel_at R t (Int32.ofNat i) (Int32.ofNat j) x2 x3
  have hn : n ≤ 8 := hA.1
  unfold bS at hS
  have v2 : (R 2 + 1).toInt = (R 2).toInt + 1 := by
    rw [i32_add (by rw [lit.2.1]; omega) (by rw [lit.2.1]; omega), lit.2.1]
  have v0 : (R 0 + x3).toInt = (R 0).toInt + x3.toInt := i32_add (by omega) (by omega)
  refine ⟨⟨hn, by rw [qn 1 (by omega) (by omega) (by omega)]; exact hA.2.1, fun i hi => ?_⟩, ⟨by omega, q3, fun k hk => ?_, fun k hk => by omega, fun j k hj hk => ?_⟩, ?_⟩
  · have b := bA_at hA hi
    rw [qn (12 + 4 * i) (by omega) (by omega) (by omega), qn (13 + 4 * i) (by omega) (by omega) (by omega), qn (14 + 4 * i) (by omega) (by omega) (by omega), qn (15 + 4 * i) (by omega) (by omega) (by omega), qn 0 (by omega) (by omega) (by omega), q2, v2]
    simp only [Nat.not_lt_zero, if_false] at b ⊢
    exact ⟨b.1, b.2.1, b.2.2.1, b.2.2.2.1, b.2.2.2.2.1, b.2.2.2.2.2.1, b.2.2.2.2.2.2.1, by omega⟩
  · rw [qn 0 (by omega) (by omega) (by omega), q2, v2]
    by_cases hkt : k = t
    · subst hkt
      rw [qa, qb, qc, qd, qe, v0]
      exact ⟨⟨i, hi, rfl⟩, ⟨j, hj, rfl⟩, h1, h2, by omega, by omega, by omega, by omega⟩
    · rw [qn (44 + 5 * k) (by omega) (by omega) (by omega), qn (45 + 5 * k) (by omega) (by omega) (by omega), qn (46 + 5 * k) (by omega) (by omega) (by omega), qn (47 + 5 * k) (by omega) (by omega) (by omega), qn (48 + 5 * k) (by omega) (by omega) (by omega)]
      obtain ⟨k1, k2, k3, k4, k5, k6, k7, k8⟩ := t3 k (by omega)
      exact ⟨k1, k2, k3, k4, k5, k6, k7, by omega⟩
  · by_cases hkt : k = t
    · subst hkt
      rw [qa, qn (44 + 5 * j) (by omega) (by omega) (by omega)]
      exact (t3 j (by omega)).2.2.2.2.2.2.2
    · rw [qn (44 + 5 * j) (by omega) (by omega) (by omega), qn (44 + 5 * k) (by omega) (by omega) (by omega)]
      exact t5 j k hj (by omega)
  · unfold bS
    rw [qn 0 (by omega) (by omega) (by omega), q2, v2, qn 5 (by omega) (by omega) (by omega), qn 6 (by omega) (by omega) (by omega), qn 7 (by omega) (by omega) (by omega), qn 8 (by omega) (by omega) (by omega), qn 9 (by omega) (by omega) (by omega)]
    omega
