/-! the pure part: seals, cancellations, days as commands -/
def selB (C : StB) (p t : Nat) (id x0 x1 x2 x3 : Int32) : StB := sbi (sbi (sba (sba (sba (sba (sba C (p + 7) t id) (p + 8) t x0) (p + 9) t x1) (p + 10) t x2) (p + 11) t x3) (p + 6) 0 (Int32.ofNat (t + 1))) (p + 6) 1 (id + 1)
theorem sel_d {n t p : Nat} {C : StB} {R : Nat → Int32} (x0 x1 x2 x3 : Int32) (hT : Ti 0 n 0 0 t C p R) (ht : t < 10) : ok_X5_add (p + 6) C x0 x1 x2 (bi C p 3 + x3) ∧ Fr p C (f_X5_add (p + 6) C x0 x1 x2 (bi C p 3 + x3)).2 ∧ Ti 0 n 0 0 (t + 1) (f_X5_add (p + 6) C x0 x1 x2 (bi C p 3 + x3)).2 p (selR R t x0 x1 x2 x3) ∧ (f_X5_add (p + 6) C x0 x1 x2 (bi C p 3 + x3)).1 = R 2 := by
  obtain ⟨cc1, cc2, cc3, cc4, cc5, cc6, cc7⟩ := Ti_c hT
  have s0 := (Ti_s hT).1
  have hx : ix (Int32.ofNat t) = t := ix_o (by omega)
  have hv : vp_in (Int32.ofNat t) 10 := in_o (by omega) (by omega)
  have p1 : p + 6 + 1 = p + 7 := by omega
  have p2 : p + 6 + 2 = p + 8 := by omega
  have p3 : p + 6 + 3 = p + 9 := by omega
  have p4 : p + 6 + 4 = p + 10 := by omega
  have p5 : p + 6 + 5 = p + 11 := by omega
  have n01 : ((1 : Nat) = 0) = False := eq_false (by decide)
  have ef : f_X5_add (p + 6) C x0 x1 x2 (bi C p 3 + x3) = (R 2, selB C p t (R 2) x0 x1 x2 (R 0 + x3)) := by
    simp only [f_X5_add, nm_eq, cc1, cc7, hx, p1, p2, p3, p4, p5, bi_sba, bi_sbi, n01, and_false, if_false, oad1, s0, selB]
  rw [ef]
  obtain ⟨qn, qa, qb, qc, qd, qe, q3, q2⟩ := sel_at R t x0 x1 x2 x3
  have hb : ∀ d k, (d < 7 ∨ 11 < d ∨ k ≠ t) → ba (selB C p t (R 2) x0 x1 x2 (R 0 + x3)) (p + d) k = ba C (p + d) k := fun d k hd => by
    unfold selB
    rw [ba_sbi, ba_sbi, ba_sba, if_neg (by omega), ba_sba, if_neg (by omega), ba_sba, if_neg (by omega), ba_sba, if_neg (by omega), ba_sba, if_neg (by omega)]
  have hi : ∀ d k, d ≠ 6 → bi (selB C p t (R 2) x0 x1 x2 (R 0 + x3)) (p + d) k = bi C (p + d) k := fun d k a1 => by
    unfold selB
    rw [bi_sbi, if_neg (by omega), bi_sbi, if_neg (by omega), bi_sba, bi_sba, bi_sba, bi_sba, bi_sba]
  have hl : ∀ k, bl (selB C p t (R 2) x0 x1 x2 (R 0 + x3)) p k = bl C p k := fun k => rfl
  have hi0 : ∀ k, bi (selB C p t (R 2) x0 x1 x2 (R 0 + x3)) p k = bi C p k := fun k => hi 0 k (by decide)
  obtain ⟨hA, ⟨t0, t1, t2, t3, t4, t5, t6, t7, t8⟩, ⟨L, w, hJ⟩, hS⟩ := hT
  refine ⟨?_, ?_, ⟨?_, ⟨?_, ?_, by omega, t3, t4, by omega, ?_, fun k hk => by omega, fun k hk => ?_⟩, ⟨L, w, ?_⟩, ?_⟩, rfl⟩
  · rintro _ rfl
    rw [cc1]
    refine ⟨hv, ?_⟩
    rintro _ rfl
    rw [bi_sba, cc1]
    refine ⟨hv, ?_⟩
    rintro _ rfl
    rw [bi_sba, bi_sba, cc1]
    refine ⟨hv, ?_⟩
    rintro _ rfl
    rw [bi_sba, bi_sba, bi_sba, cc1]
    refine ⟨hv, ?_⟩
    rintro _ rfl
    rw [bi_sba, bi_sba, bi_sba, bi_sba, cc1]
    exact hv
  · exact Fr_i (Fr_i (Fr_a (Fr_a (Fr_a (Fr_a (Fr_a (Fr_r p C) 7 _ _ (by decide)) 8 _ _ (by decide)) 9 _ _ (by decide)) 10 _ _ (by decide)) 11 _ _ (by decide)) 6 _ _ (by decide)) 6 _ _ (by decide)
  · have hu : ∀ q, q < 44 → q ≠ 3 → q ≠ 2 → selR R t x0 x1 x2 x3 q = R q := fun q h1 h2 h3 => qn q (by omega) h2 h3
    have hn8 : n ≤ 8 := hA.2.2.1
    refine ⟨?_, ?_, hA.2.2.1, fun i hi => ?_, fun i hi => ?_, fun i hi => ?_, fun i hi => ?_⟩
    · rw [hi 1 0 (by decide)]
      exact hA.1
    · rw [hu 1 (by omega) (by omega) (by omega)]
      exact hA.2.1
    · rw [hb 2 i (by omega), hu _ (by omega) (by omega) (by omega)]
      exact hA.2.2.2.1 i hi
    · rw [hb 3 i (by omega), hu _ (by omega) (by omega) (by omega)]
      exact hA.2.2.2.2.1 i hi
    · rw [hb 4 i (by omega), hu _ (by omega) (by omega) (by omega)]
      exact hA.2.2.2.2.2.1 i hi
    · rw [hb 5 i (by omega), hu _ (by omega) (by omega) (by omega)]
      exact hA.2.2.2.2.2.2 i hi
  · unfold selB
    rw [bi_sbi, if_neg (by omega), bi_sbi, if_pos ⟨rfl, rfl⟩]
  · rw [q3]
    congr 1
  · unfold selB
    rw [bi_sbi, if_pos ⟨rfl, rfl⟩, q2]
  · simp only [Nat.zero_add] at t8 hk ⊢
    by_cases hkt : k = t
    · subst hkt
      rw [qa, qb, qc, qd, qe]
      unfold selB
      simp only [ba_sbi, ba_sba]
      refine ⟨?_, ?_, ?_, ?_, ?_⟩
      · rw [if_neg (by omega), if_neg (by omega), if_neg (by omega), if_neg (by omega), if_pos ⟨trivial, trivial⟩]
      · rw [if_neg (by omega), if_neg (by omega), if_neg (by omega), if_pos ⟨trivial, trivial⟩]
      · rw [if_neg (by omega), if_neg (by omega), if_pos ⟨trivial, trivial⟩]
      · rw [if_neg (by omega), if_pos ⟨trivial, trivial⟩]
      · rw [if_pos ⟨trivial, trivial⟩]
    · rw [hb 7 k (by omega), hb 8 k (by omega), hb 9 k (by omega), hb 10 k (by omega), hb 11 k (by omega), qn (44 + 5 * k) (by omega) (by omega) (by omega), qn (45 + 5 * k) (by omega) (by omega) (by omega), qn (46 + 5 * k) (by omega) (by omega) (by omega), qn (47 + 5 * k) (by omega) (by omega) (by omega), qn (48 + 5 * k) (by omega) (by omega) (by omega)]
      exact t8 k (by omega)
  · have hu : ∀ q, 94 ≤ q → selR R t x0 x1 x2 x3 q = R q := fun q h1 => qn q (by omega) (by omega) (by omega)
    have hu2 : selR R t x0 x1 x2 x3 11 = R 11 := qn 11 (by omega) (by omega) (by omega)
    simp (disch := omega) only [hu, hu2, hb, hi]
    exact hJ
  · unfold TiS at hS ⊢
    rw [hi0, hi0, hi0, hl, hl, hl, hl, hl, qn 0 (by omega) (by omega) (by omega), qn 4 (by omega) (by omega) (by omega), qn 10 (by omega) (by omega) (by omega), qn 5 (by omega) (by omega) (by omega), qn 6 (by omega) (by omega) (by omega), qn 7 (by omega) (by omega) (by omega), qn 8 (by omega) (by omega) (by omega), qn 9 (by omega) (by omega) (by omega)]
    exact hS
/-- the model's seal, its conditions named -/
theorem sel_J {M : StM} {R : Nat → Int32} {n t : Nat} {x0 x1 x2 x3 : Int32} (h1 : R 1 = Int32.ofNat n) (hn : n ≤ 8) (h3 : R 3 = Int32.ofNat t) (ht : t ≤ 10) : (∀ s0, (s0 = 0 ∨ s0 = 1) → ok_X7_seals_J28 (rs M R) x0 x1 x2 x3 s0) ∧ (∀ s0, ¬ (acc n x0 ∧ acc n x1) → f_X7_seals_J28 (rs M R) x0 x1 x2 x3 s0 = (0, rs (smi M 15 1) R)) ∧ (acc n x0 → acc n x1 → f_X7_seals_J28 (rs M R) x0 x1 x2 x3 0 = (0, rs (smi M 15 2) R)) ∧ (acc n x0 → acc n x1 → ¬ t < 10 → f_X7_seals_J28 (rs M R) x0 x1 x2 x3 1 = (0, rs (smi M 15 3) R)) ∧ (acc n x0 → acc n x1 → t < 10 → f_X7_seals_J28 (rs M R) x0 x1 x2 x3 1 = (R 2, rs (smi M 15 0) (selR R t x0 x1 x2 x3))) := by
  have w10 : ((10 : Int32) ≤ R 3) ↔ 10 ≤ t := by
    rw [h3]
    exact le_ofN (a := 10) (by decide) (by omega)
  have w10' : ((10 : Int32) ≤ Int32.ofNat t) ↔ 10 ≤ t := le_ofN (a := 10) (by decide) (by omega)
  have k1 : 44 + 5 * t + 1 = 45 + 5 * t := by omega
  have k2 : 44 + 5 * t + 2 = 46 + 5 * t := by omega
  have k3 : 44 + 5 * t + 3 = 47 + 5 * t := by omega
  have k4 : 44 + 5 * t + 4 = 48 + 5 * t := by omega
  have okJ70 : ∀ s0 s1 s2, (s0 = 1 → t < 10) → (s0 = 0 ∨ s0 = 1) → (s1 = 0 ∨ s1 = 1) → (s2 = 0 ∨ s2 = 1) → ok_X7_seals_J70 (rs M R) x0 x1 x2 x3 s0 s1 s2 := by
    intro s0 s1 s2 hx a0 a1 a2
    rintro _ rfl
    rcases a2 with rfl | rfl
    · simp only [holds_1, true_implies, not_true_eq_false, false_implies, and_self]
    · rcases a1 with rfl | rfl
      · simp only [holds_2, true_implies, not_true_eq_false, false_implies, and_self]
      · rcases a0 with rfl | rfl
        · simp only [holds_3, true_implies, not_true_eq_false, false_implies, and_self]
        · have h9 := hx rfl
          rw [holds_0]
          refine ⟨fun _ => trivial, fun _ => ?_⟩
          rintro _ rfl
          simp only [smi_rs, ma_rs0, ixl, h3, opla, oad0, oad1, oad2, oad3, oad4]
          refine ⟨in_o (by omega) (by omega), ?_⟩
          rintro _ rfl
          refine ⟨in_o (by omega) (by omega), ?_⟩
          rintro _ rfl
          refine ⟨in_o (by omega) (by omega), ?_⟩
          rintro _ rfl
          refine ⟨in_o (by omega) (by omega), ?_⟩
          rintro _ rfl
          exact in_o (by omega) (by omega)
  have okJ52 : ∀ s1 s2, (s1 = 0 ∨ s1 = 1) → (s2 = 0 ∨ s2 = 1) → ok_X7_seals_J52 (rs M R) x0 x1 x2 x3 s1 s2 := by
    intro s1 s2 a1 a2
    unfold ok_X7_seals_J52
    simp only [ma_rs0, ixl]
    exact ⟨fun _ => okJ70 _ _ _ (fun h => absurd h (by decide)) (Or.inl rfl) a1 a2, fun h => okJ70 _ _ _ (fun _ => by have := mt w10.mpr h; omega) (Or.inr rfl) a1 a2⟩
  refine ⟨?_, ?_, ?_, ?_, ?_⟩
  · intro s0 a0
    refine ⟨okisAcc _ _, ?_⟩
    rintro _ rfl
    refine ⟨fun _ => okJ52 _ _ a0 (Or.inl rfl), fun _ => ⟨okisAcc _ _, ?_⟩⟩
    rintro _ rfl
    exact ⟨fun _ => okJ52 _ _ a0 (Or.inl rfl), fun _ => okJ52 _ _ a0 (Or.inr rfl)⟩
  · intro s0 hx
    by_cases hx0 : acc n x0
    · have hx1 : ¬ acc n x1 := fun h => hx ⟨hx0, h⟩
      simp only [f_X7_seals_J28, f_X7_seals_J51, f_X7_seals_J52, f_X7_seals_J70, nm_eq, isAcc_1 h1 hn hx0, isAcc_0 h1 hn hx1, i10, if_false, if_true, holds_1, smi_rs, ite_self]
    · simp only [f_X7_seals_J28, f_X7_seals_J51, f_X7_seals_J52, f_X7_seals_J70, nm_eq, isAcc_0 h1 hn hx0, if_true, holds_1, smi_rs, ite_self]
  · intro hx0 hx1
    simp only [f_X7_seals_J28, f_X7_seals_J51, f_X7_seals_J52, f_X7_seals_J70, nm_eq, isAcc_1 h1 hn hx0, isAcc_1 h1 hn hx1, i10, if_false, if_true, holds_2, smi_rs, ite_self]
  · intro hx0 hx1 h9
    have hw : (10 : Int32) ≤ Int32.ofNat t := w10'.mpr (by omega)
    simp only [f_X7_seals_J28, f_X7_seals_J51, f_X7_seals_J52, f_X7_seals_J70, nm_eq, isAcc_1 h1 hn hx0, isAcc_1 h1 hn hx1, i10, if_false, ma_rs0, ixl, h3, if_pos hw, if_true, holds_3, smi_rs]
  · intro hx0 hx1 h9
    have hw : ¬ (10 : Int32) ≤ Int32.ofNat t := fun h => by have := w10'.mp h; omega
    have z0 : ix (Int32.ofNat (44 + 5 * t)) = 44 + 5 * t := ix_o (by omega)
    have z1 : ix (Int32.ofNat (45 + 5 * t)) = 45 + 5 * t := ix_o (by omega)
    have z2 : ix (Int32.ofNat (46 + 5 * t)) = 46 + 5 * t := ix_o (by omega)
    have z3 : ix (Int32.ofNat (47 + 5 * t)) = 47 + 5 * t := ix_o (by omega)
    have z4 : ix (Int32.ofNat (48 + 5 * t)) = 48 + 5 * t := ix_o (by omega)
    have u0 : ur (ur (ur (ur R (44 + 5 * t) (R 2)) (45 + 5 * t) x0) (46 + 5 * t) x1) (47 + 5 * t) x2 0 = R 0 := by
      rw [ur_ne _ _ (by omega), ur_ne _ _ (by omega), ur_ne _ _ (by omega), ur_ne _ _ (by omega)]
    have u3 : ur (ur (ur (ur (ur R (44 + 5 * t) (R 2)) (45 + 5 * t) x0) (46 + 5 * t) x1) (47 + 5 * t) x2) (48 + 5 * t) (R 0 + x3) 3 = Int32.ofNat t := by
      rw [ur_ne _ _ (by omega), ur_ne _ _ (by omega), ur_ne _ _ (by omega), ur_ne _ _ (by omega), ur_ne _ _ (by omega), h3]
    have u2 : ur (ur (ur (ur (ur (ur R (44 + 5 * t) (R 2)) (45 + 5 * t) x0) (46 + 5 * t) x1) (47 + 5 * t) x2) (48 + 5 * t) (R 0 + x3)) 3 (Int32.ofNat (t + 1)) 2 = R 2 := by
      rw [ur_ne _ _ (by omega), ur_ne _ _ (by omega), ur_ne _ _ (by omega), ur_ne _ _ (by omega), ur_ne _ _ (by omega), ur_ne _ _ (by omega)]
    simp only [f_X7_seals_J28, f_X7_seals_J51, f_X7_seals_J52, f_X7_seals_J70, nm_eq, isAcc_1 h1 hn hx0, isAcc_1 h1 hn hx1, i10, if_false, ma_rs0, ixl, h3, if_neg hw, holds_0, smi_rs, opla, oad0, oad1, oad2, oad3, oad4, k1, k2, k3, k4, z0, z1, z2, z3, z4, sma_rs, u0, u3, u2, ur_eq, Int32.add_sub_cancel]
    rfl
theorem sel_S {M : StM} {x0 x1 x2 x3 : Int32} : (x0 = x1 → f_X7_seals M x0 x1 x2 x3 = f_X7_seals_J28 M x0 x1 x2 x3 0) ∧ (¬ x0 = x1 → f_X7_isIn x2 1 999 = 0 → f_X7_seals M x0 x1 x2 x3 = f_X7_seals_J28 M x0 x1 x2 x3 0) ∧ (¬ x0 = x1 → f_X7_isIn x2 1 999 = 1 → f_X7_isIn x3 0 60 = 0 → f_X7_seals M x0 x1 x2 x3 = f_X7_seals_J28 M x0 x1 x2 x3 0) ∧ (¬ x0 = x1 → f_X7_isIn x2 1 999 = 1 → f_X7_isIn x3 0 60 = 1 → f_X7_seals M x0 x1 x2 x3 = f_X7_seals_J28 M x0 x1 x2 x3 1) := by
  refine ⟨fun h => ?_, fun h hy => ?_, fun h hy hz => ?_, fun h hy hz => ?_⟩
  · unfold f_X7_seals
    rw [if_pos h]
    unfold f_X7_seals_J27
    exact rfl
  · unfold f_X7_seals
    rw [if_neg h, nm_eq, isAmt, hy, if_pos rfl]
    unfold f_X7_seals_J27
    exact rfl
  · unfold f_X7_seals
    rw [if_neg h, nm_eq, isAmt, hy, if_neg (by decide), nm_eq, hz, if_pos rfl]
    unfold f_X7_seals_J27
    exact rfl
  · unfold f_X7_seals
    rw [if_neg h, nm_eq, isAmt, hy, if_neg (by decide), nm_eq, hz, if_neg (by decide)]
theorem CS_sel {e n t p : Nat} {B : StB} {R : Nat → Int32} (M : StM) (x0 x1 x2 x3 : Int32) (hT : Ti 0 n 0 0 t B p R) (hR : RB e (60 * e) n t 0 0 R) (he : e < 600) : CS e n t p B R M (f_X3_sealFault p B x0 x1 x2 x3) True (fun C => f_X5_add (p + 6) C x0 x1 x2 (bi C p 3 + x3)) (fun C => ok_X5_add (p + 6) C x0 x1 x2 (bi C p 3 + x3)) (f_X7_seals (rs M R) x0 x1 x2 x3) (ok_X7_seals (rs M R) x0 x1 x2 x3) [1, 2, 4] := by
  obtain ⟨b1, b2, b3⟩ := Ti_n hT
  have h3 : R 3 = Int32.ofNat t := hR.2.1.2.1
  have ht : t ≤ 10 := hR.2.1.1
  have c6 : bi B (p + 6) 0 = Int32.ofNat t := (Ti_c hT).1
  have w10 : (bi B (p + 6) 0 < 10) ↔ t < 10 := by
    rw [c6]
    exact lt_ofN (b := 10) (by omega) (by decide)
  have l := lit
  obtain ⟨ok28, j1, j2, j3, j4⟩ := sel_J (M := M) (x0 := x0) (x1 := x1) (x2 := x2) (x3 := x3) b2 b3 h3 ht
  have okm : ok_X7_seals (rs M R) x0 x1 x2 x3 := by
    unfold ok_X7_seals ok_X7_seals_J27
    refine ⟨fun _ => ok28 0 (Or.inl rfl), fun _ => ⟨okAmt _, ?_⟩⟩
    rintro _ rfl
    refine ⟨fun _ => ok28 0 (Or.inl rfl), fun _ => ?_⟩
    rintro _ rfl
    exact ⟨fun _ => ok28 0 (Or.inl rfl), fun _ => ok28 1 (Or.inr rfl)⟩
  refine ⟨trivial, okm, ?_⟩
  by_cases hacc : acc n x0 ∧ acc n x1
  · obtain ⟨hx0, hx1⟩ := hacc
    have g0 := has_1 (q := p + 1) b1 (by omega) hx0
    have g1 := has_1 (q := p + 1) b1 (by omega) hx1
    by_cases heq : x0 = x1
    · left
      refine ⟨1, ?_, ?_⟩
      · simp only [f_X3_sealFault, nm_eq, g0, g1, i10, if_false, if_pos heq]
        rfl
      · rw [sel_S.1 heq, j2 hx0 hx1]
        rfl
    · rcases isIn_c x2 1 999 with ⟨hy, y1, y2⟩ | ⟨hy, _⟩
      · rcases isIn_c x3 0 60 with ⟨hz, z1, z2⟩ | ⟨hz, _⟩
        · by_cases h9 : t < 10
          · right
            have em : f_X7_seals (rs M R) x0 x1 x2 x3 = (R 2, rs (smi M 15 0) (selR R t x0 x1 x2 x3)) := by
              rw [sel_S.2.2.2 heq hy hz]
              exact j4 hx0 hx1 h9
            rw [em]
            obtain ⟨i, hi, ei⟩ := acc_o hx0
            obtain ⟨j, hj, ej⟩ := acc_o hx1
            refine ⟨?_, n, t + 1, selR R t x0 x1 x2 x3, mi M 10, by rw [← smi10], ?_, fun C hC => ?_⟩
            · simp only [f_X3_sealFault, nm_eq, g0, g1, isIn_6, hy, hz, i10, if_false, if_neg heq, if_pos (w10.mpr h9)]
            · rw [ei, ej]
              exact sel_RB hR he h9 hi hj (by omega) (by omega) (by omega) (by omega)
            · obtain ⟨d1, d2, d3, d4⟩ := sel_d x0 x1 x2 x3 hC h9
              exact ⟨d1, d2, d3, d4⟩
          · left
            refine ⟨2, ?_, ?_⟩
            · simp only [f_X3_sealFault, nm_eq, g0, g1, isIn_6, hy, hz, i10, if_false, if_neg heq, if_neg (mt w10.mp h9)]
              rfl
            · rw [sel_S.2.2.2 heq hy hz, j3 hx0 hx1 h9]
              rfl
        · left
          refine ⟨1, ?_, ?_⟩
          · simp only [f_X3_sealFault, nm_eq, g0, g1, isIn_6, hy, hz, i10, if_false, if_neg heq, if_true]
            rfl
          · rw [sel_S.2.2.1 heq hy hz, j2 hx0 hx1]
            rfl
      · left
        refine ⟨1, ?_, ?_⟩
        · simp only [f_X3_sealFault, nm_eq, g0, g1, isIn_6, hy, i10, if_false, if_neg heq, if_true]
          rfl
        · rw [sel_S.2.1 heq hy, j2 hx0 hx1]
          rfl
  · left
    have j1 := fun s => j1 s hacc
    refine ⟨0, ?_, ?_⟩
    · by_cases hx0 : acc n x0
      · have hx1 : ¬ acc n x1 := fun h => hacc ⟨hx0, h⟩
        simp only [f_X3_sealFault, nm_eq, has_1 (q := p + 1) b1 (by omega) hx0, has_0 (q := p + 1) b1 (by omega) hx1, i10, if_false, if_true]
        rfl
      · simp only [f_X3_sealFault, nm_eq, has_0 (q := p + 1) b1 (by omega) hx0, if_true]
        rfl
    · simp only [f_X7_seals, f_X7_seals_J27, j1, nm_eq, ite_self]
      rfl
/-! cancellations -/
theorem L_rem2 {n p : Nat} (x a2 : Int32) : ∀ (g n1 s kp c : Nat) (B : StB) (R : Nat → Int32), s + g = c → g < n1 → Ti kp n s kp c B p R → (∀ q, kp ≤ q → q < kp + g → R (44 + 5 * q) ≠ x) → ok_X5_remove_L7 n1 (p + 6) B x a2 (Int32.ofNat kp) (Int32.ofNat s) ∧ (f_X5_remove_L7 n1 (p + 6) B x a2 (Int32.ofNat kp) (Int32.ofNat s)).1 = a2 ∧ (f_X5_remove_L7 n1 (p + 6) B x a2 (Int32.ofNat kp) (Int32.ofNat s)).2.1 = Int32.ofNat (kp + g) ∧ Ti (kp + g) n c (kp + g) c (f_X5_remove_L7 n1 (p + 6) B x a2 (Int32.ofNat kp) (Int32.ofNat s)).2.2 p R ∧ Fr p B (f_X5_remove_L7 n1 (p + 6) B x a2 (Int32.ofNat kp) (Int32.ofNat s)).2.2 := by
  intro g
  induction g with
  | zero =>
    intro n1 s kp c B R hs h1 hT hx
    obtain ⟨n1, rfl⟩ : ∃ q, n1 = q + 1 := ⟨n1 - 1, by omega⟩
    have hsc : c = s := by omega
    subst hsc
    obtain ⟨cc1, cc2, cc3, cc4, cc5, cc6, cc7⟩ := Ti_c hT
    have w1 : Int32.ofNat c ≤ Int32.ofNat c := (le_ofN (by omega) (by omega)).mpr (Nat.le_refl c)
    have ef : f_X5_remove_L7 (n1 + 1) (p + 6) B x a2 (Int32.ofNat kp) (Int32.ofNat c) = (a2, Int32.ofNat kp, B) := by
      simp only [f_X5_remove_L7, cc1, if_pos w1]
    rw [ef]
    refine ⟨?_, rfl, rfl, hT, Fr_r p B⟩
    simp only [ok_X5_remove_L7, cc1]
    exact ⟨fun _ => trivial, fun h9 => absurd w1 h9⟩
  | succ g ih =>
    intro n1 s kp c B R hs h1 hT hx
    obtain ⟨n1, rfl⟩ : ∃ q, n1 = q + 1 := ⟨n1 - 1, by omega⟩
    obtain ⟨cc1, cc2, cc3, cc4, cc5, cc6, cc7⟩ := Ti_c hT
    have w1 : ¬ Int32.ofNat c ≤ Int32.ofNat s := by
      rw [le_ofN (by omega) (by omega)]
      omega
    have hxs : ix (Int32.ofNat s) = s := ix_o (by omega)
    have hv : vp_in (Int32.ofNat s) 10 := in_o (by omega) (by omega)
    have tp := Ti_p hT (k := 0) (by omega)
    simp only [Nat.add_zero] at tp
    have p7 : p + 6 + 1 = p + 7 := by omega
    have hne : ¬ ba B (p + 7) s = x := by
      rw [tp.1]
      exact hx kp (Nat.le_refl kp) (by omega)
    obtain ⟨nT, oc, cF⟩ := Ti_copy hT (by omega)
    obtain ⟨r1, r2, r3, r4, r5⟩ := ih n1 (s + 1) (kp + 1) c (f_X5_copySlot (p + 6) (p + 6) B (Int32.ofNat s) (Int32.ofNat kp)) R (by omega) (by omega) nT (fun q q1 q2 => hx q (by omega) (by omega))
    have ef : f_X5_remove_L7 (n1 + 1) (p + 6) B x a2 (Int32.ofNat kp) (Int32.ofNat s) = f_X5_remove_L7 n1 (p + 6) (f_X5_copySlot (p + 6) (p + 6) B (Int32.ofNat s) (Int32.ofNat kp)) x a2 (Int32.ofNat (kp + 1)) (Int32.ofNat (s + 1)) := by
      simp only [f_X5_remove_L7, cc1, if_neg w1, hxs, p7, if_neg hne, nm_eq, oad1]
    rw [ef]
    rw [show kp + 1 + g = kp + (g + 1) by omega] at r3 r4
    refine ⟨?_, r2, r3, r4, Fr_t cF r5⟩
    simp only [ok_X5_remove_L7, cc1, hxs, p7]
    refine ⟨fun _ => trivial, fun _ => ⟨hv, fun h9 => absurd h9 hne, fun _ => ⟨oc, ?_⟩⟩⟩
    rintro _ rfl
    rw [oad1, oad1]
    exact r1
theorem L_rem1 {n p m c : Nat} (x : Int32) (hm : m < c) : ∀ (g n1 s : Nat) (B : StB) (R : Nat → Int32) (a2 : Int32), s + g = m → c < n1 + s → Ti s n s s c B p R → (∀ q, q < c → q ≠ m → R (44 + 5 * q) ≠ x) → R (44 + 5 * m) = x → ok_X5_remove_L7 n1 (p + 6) B x a2 (Int32.ofNat s) (Int32.ofNat s) ∧ (f_X5_remove_L7 n1 (p + 6) B x a2 (Int32.ofNat s) (Int32.ofNat s)).1 = R (47 + 5 * m) ∧ (f_X5_remove_L7 n1 (p + 6) B x a2 (Int32.ofNat s) (Int32.ofNat s)).2.1 = Int32.ofNat (c - 1) ∧ Ti (c - 1) n c (c - 1) c (f_X5_remove_L7 n1 (p + 6) B x a2 (Int32.ofNat s) (Int32.ofNat s)).2.2 p (dw R m) ∧ Fr p B (f_X5_remove_L7 n1 (p + 6) B x a2 (Int32.ofNat s) (Int32.ofNat s)).2.2 := by
  intro g
  induction g with
  | zero =>
    intro n1 s B R a2 hs h1 hT hx hxm
    obtain ⟨n1, rfl⟩ : ∃ q, n1 = q + 1 := ⟨n1 - 1, by omega⟩
    have hsm : m = s := by omega
    subst hsm
    obtain ⟨cc1, cc2, cc3, cc4, cc5, cc6, cc7⟩ := Ti_c hT
    have w1 : ¬ Int32.ofNat c ≤ Int32.ofNat m := by
      rw [le_ofN (by omega) (by omega)]
      omega
    have hxs : ix (Int32.ofNat m) = m := ix_o (by omega)
    have hv : vp_in (Int32.ofNat m) 10 := in_o (by omega) (by omega)
    have tp := Ti_p hT (k := 0) (by omega)
    simp only [Nat.add_zero] at tp
    have p7 : p + 6 + 1 = p + 7 := by omega
    have p10 : p + 6 + 4 = p + 10 := by omega
    have hne : ba B (p + 7) m = x := by
      rw [tp.1]
      exact hxm
    have nT := Ti_drop hT hm
    obtain ⟨r1, r2, r3, r4, r5⟩ := L_rem2 x (R (47 + 5 * m)) (c - 1 - m) n1 (m + 1) m c B (dw R m) (by omega) (by omega) nT (fun q q1 q2 => by
      simp only [dw]
      rw [if_neg (by omega), if_pos (by omega)]
      rw [show 44 + 5 * q + 5 = 44 + 5 * (q + 1) by omega]
      exact hx (q + 1) (by omega) (by omega))
    have ef : f_X5_remove_L7 (n1 + 1) (p + 6) B x a2 (Int32.ofNat m) (Int32.ofNat m) = f_X5_remove_L7 n1 (p + 6) B x (R (47 + 5 * m)) (Int32.ofNat m) (Int32.ofNat (m + 1)) := by
      simp only [f_X5_remove_L7, cc1, if_neg w1, hxs, p7, if_pos hne, nm_eq, oad1, p10, tp.2.2.2.1]
    rw [ef]
    rw [show m + (c - 1 - m) = c - 1 by omega] at r3 r4
    refine ⟨?_, r2, r3, r4, r5⟩
    simp only [ok_X5_remove_L7, cc1, hxs, p7]
    refine ⟨fun _ => trivial, fun _ => ⟨hv, fun _ => ⟨hv, ?_⟩, fun h9 => absurd hne h9⟩⟩
    rintro _ rfl
    rw [p10, tp.2.2.2.1, oad1]
    exact r1
  | succ g ih =>
    intro n1 s B R a2 hs h1 hT hx hxm
    obtain ⟨n1, rfl⟩ : ∃ q, n1 = q + 1 := ⟨n1 - 1, by have := (Ti_c hT).2.2.2.2.2.1; omega⟩
    obtain ⟨cc1, cc2, cc3, cc4, cc5, cc6, cc7⟩ := Ti_c hT
    have w1 : ¬ Int32.ofNat c ≤ Int32.ofNat s := by
      rw [le_ofN (by omega) (by omega)]
      omega
    have hxs : ix (Int32.ofNat s) = s := ix_o (by omega)
    have hv : vp_in (Int32.ofNat s) 10 := in_o (by omega) (by omega)
    have tp := Ti_p hT (k := 0) (by omega)
    simp only [Nat.add_zero] at tp
    have p7 : p + 6 + 1 = p + 7 := by omega
    have hne : ¬ ba B (p + 7) s = x := by
      rw [tp.1]
      exact hx s (by omega) (by omega)
    obtain ⟨nT, oc, cF⟩ := Ti_copy hT (by omega)
    obtain ⟨r1, r2, r3, r4, r5⟩ := ih n1 (s + 1) (f_X5_copySlot (p + 6) (p + 6) B (Int32.ofNat s) (Int32.ofNat s)) R a2 (by omega) (by omega) nT hx hxm
    have ef : f_X5_remove_L7 (n1 + 1) (p + 6) B x a2 (Int32.ofNat s) (Int32.ofNat s) = f_X5_remove_L7 n1 (p + 6) (f_X5_copySlot (p + 6) (p + 6) B (Int32.ofNat s) (Int32.ofNat s)) x a2 (Int32.ofNat (s + 1)) (Int32.ofNat (s + 1)) := by
      simp only [f_X5_remove_L7, cc1, if_neg w1, hxs, p7, if_neg hne, nm_eq, oad1]
    rw [ef]
    refine ⟨?_, r2, r3, r4, Fr_t cF r5⟩
    simp only [ok_X5_remove_L7, cc1, hxs, p7]
    refine ⟨fun _ => trivial, fun _ => ⟨hv, fun h9 => absurd h9 hne, fun _ => ⟨oc, ?_⟩⟩⟩
    rintro _ rfl
    rw [oad1]
    exact r1
theorem rem_d {n t p m : Nat} {C : StB} {R : Nat → Int32} (x : Int32) (hT : Ti 0 n 0 0 t C p R) (hu : uq t R) (hm : m < t) (hx : R (44 + 5 * m) = x) : ok_X5_remove (p + 6) C x ∧ Fr p C (f_X5_remove (p + 6) C x).2 ∧ Ti 0 n 0 0 (t - 1) (f_X5_remove (p + 6) C x).2 p (dw R m) ∧ (f_X5_remove (p + 6) C x).1 = R (47 + 5 * m) := by
  have hfu : t < fu + 0 := by have := (Ti_c hT).2.2.1; unfold fu; omega
  obtain ⟨r1, r2, r3, r4, r5⟩ := L_rem1 x hm m fu 0 C R 0 (by omega) hfu hT (fun q q1 q2 h => q2 (hu q m q1 hm (h.trans hx.symm))) hx
  clear hfu
  have z0 : Int32.ofNat 0 = 0 := rfl
  rw [z0] at r1 r2 r3 r4 r5
  obtain ⟨hT1, hF1⟩ := Ti_end r4
  have ef : f_X5_remove (p + 6) C x = ((f_X5_remove_L7 fu (p + 6) C x 0 0 0).1, sbi (f_X5_remove_L7 fu (p + 6) C x 0 0 0).2.2 (p + 6) 0 (f_X5_remove_L7 fu (p + 6) C x 0 0 0).2.1) := by
    unfold f_X5_remove
    simp only [nm_eq]
  rw [ef, r3]
  exact ⟨r1, Fr_t r5 hF1, hT1, r2⟩
theorem CS_voi {e n t p : Nat} {B : StB} {R : Nat → Int32} (M : StM) (x : Int32) (hT : Ti 0 n 0 0 t B p R) (hR : RB e (60 * e) n t 0 0 R) (he : e < 600) : CS e n t p B R M (f_X3_cancelFault p B x) (ok_X3_cancelFault p B x) (fun C => f_X5_remove (p + 6) C x) (fun C => ok_X5_remove (p + 6) C x) (f_X7_voids (rs M R) x) (ok_X7_voids (rs M R) x) [5] := by
  have h3 : R 3 = Int32.ofNat t := hR.2.1.2.1
  have ht : t ≤ 10 := hR.2.1.1
  have hu := bT_uq hR.2.1
  obtain ⟨oc, c1, c2⟩ := find_C x hT hu
  obtain ⟨om, m1, m2⟩ := find_M (M := M) x h3 ht hu
  have okf : ok_X3_cancelFault p B x := oc
  by_cases hex : ∃ m, m < t ∧ R (44 + 5 * m) = x
  · obtain ⟨m, hm, hx⟩ := hex
    have cc := c2 m hm hx
    have mm := m2 m hm hx
    have hne : ¬ (Int32.ofNat m = -1) := by
      intro h
      have := congrArg Int32.toInt h
      rw [ofN_toInt (by omega)] at this
      have h1 : (-1 : Int32).toInt = -1 := by decide
      omega
    have hge : (0 : Int32) ≤ Int32.ofNat m := by
      rw [show (0 : Int32) = Int32.ofNat 0 from rfl, le_ofN (by omega) (by omega)]
      omega
    have d := drp_R (smi M 15 0) R (k := m) (by omega)
    have okm : ok_X7_voids (rs M R) x := by
      refine ⟨om, ?_⟩
      rintro _ rfl
      rw [mm]
      refine ⟨fun h9 => absurd h9 hne, fun _ => ⟨okgoes (Or.inr rfl), ?_⟩⟩
      rintro _ rfl
      rw [goes_1]
      refine ⟨fun h9 => absurd (show (1 : Int32) = 0 from h9) (by decide), fun _ => ⟨ok_pl3 (M := smi M 15 0) (by omega), fun _ _ => d.2⟩⟩
    have em : f_X7_voids (rs M R) x = (R (47 + 5 * m), rs (smi M 15 0) (dw R m)) := by
      simp only [f_X7_voids, f_X7_voids_J17, nm_eq, mm, if_neg hne, goes_1, i10, if_false, smi_rs, pl_3 (M := smi M 15 0) (R := R) (k := m) (by omega), d.1]
    refine ⟨okf, okm, Or.inr ⟨?_, n, t - 1, dw R m, mi M 10, ?_, ?_, fun C hC => ?_⟩⟩
    · simp only [f_X3_cancelFault, nm_eq, cc, if_pos hge]
    · rw [em, ← smi10]
    · exact RB_mono (RB_drop hR hm (Nat.zero_le m)) (by omega) (by omega) (by omega) (by omega)
    · obtain ⟨d1, d2, d3, d4⟩ := rem_d x hC hu hm hx
      rw [em]
      exact ⟨d1, d2, d3, d4⟩
  · have hno : ∀ j, j < t → R (44 + 5 * j) ≠ x := fun j hj h => hex ⟨j, hj, h⟩
    have cc := c1 hno
    have mm := m1 hno
    refine ⟨okf, ?_, Or.inl ⟨0, ?_, ?_⟩⟩
    · refine ⟨om, ?_⟩
      rintro _ rfl
      rw [mm]
      refine ⟨fun _ => ⟨okgoes (Or.inl rfl), ?_⟩, fun h9 => absurd rfl h9⟩
      rintro _ rfl
      rw [goes_0]
      exact ⟨fun _ => trivial, fun h9 => absurd rfl h9⟩
    · simp only [f_X3_cancelFault, nm_eq, cc]
      rw [if_neg (by decide)]
      rfl
    · simp only [f_X7_voids, f_X7_voids_J17, nm_eq, mm, if_true, goes_0]
      rfl
/-! days -/
theorem CS_day {e n t p : Nat} {B : StB} {R : Nat → Int32} (M : StM) (x : Int32) (hT : Ti 0 n 0 0 t B p R) (hR : RB e (60 * e) n t 0 0 R) (he : e < 600) : CS e n t p B R M (f_X3_endDaysFault p B x) True (fun C => f_X3_passDays p C x) (fun C => ok_X3_passDays p C x) (f_X7_waits (rs M R) x) (ok_X7_waits (rs M R) x) [2] := by
  have l := lit
  rcases isIn_c x 1 60 with ⟨hy, y1, y2⟩ | ⟨hy, _⟩
  · obtain ⟨d, hd, rfl⟩ := of_rng (x := x) (n := 61) (by omega) (by omega)
    have z0 : Int32.ofNat 0 = 0 := rfl
    have hfu : 61 < fu := by unfold fu; omega
    obtain ⟨t', R', v, r1, r2, r3, r4, r5, r6, r7, r8⟩ := L_pass d (by omega) 0 d fu fu 0 (60 * e) t B R (smi M 15 0) 0 (by omega) (by omega) (by omega) (by omega) hT hR
    rw [z0] at r1 r2 r3 r4 r5 r6 r8
    refine ⟨trivial, ?_, Or.inr ⟨?_, n, t', R', v, ?_, ?_, fun C hC => ?_⟩⟩
    · rintro _ rfl
      rw [hy]
      refine ⟨okgoes (Or.inr rfl), ?_⟩
      rintro _ rfl
      rw [goes_1]
      exact ⟨fun h9 => absurd (show (1 : Int32) = 0 from h9) (by decide), fun _ => r2⟩
    · simp only [f_X3_endDaysFault, nm_eq, isIn_6, hy, i10, if_false]
    · simp only [f_X7_waits, nm_eq, hy, goes_1, i10, if_false, smi_rs, r4]
    · exact RB_mono r7 (by omega) (by omega) (by omega) (by omega)
    · obtain ⟨t2, R2, v2, q1, q2, q3, q4, q5, q6, q7, q8⟩ := L_pass d (by omega) 0 d fu fu 0 (60 * e) t C R (smi M 15 0) 0 (by omega) (by omega) (by omega) (by omega) hC hR
      rw [z0] at q1 q2 q3 q4 q5 q6 q8
      have eR : rs (smi (smi M 15 0) 10 v2) R2 = rs (smi (smi M 15 0) 10 v) R' := by
        have := q5.symm.trans r5
        exact this
      have hRR : R2 = R' := by
        funext k
        have := congrArg (fun M' => ma M' 0 k) eR
        exact this
      subst hRR
      have ht2 : t2 = t' := by
        have h1 := q7.2.1.2.1
        have h2 := r7.2.1.2.1
        have h3 := q7.2.1.1
        have h4 := r7.2.1.1
        exact (ofN_inj (by omega) (by omega)).mp (h1.symm.trans h2)
      subst ht2
      have ec : f_X3_passDays p C (Int32.ofNat d) = ((f_X3_passDays_L4 fu p C (Int32.ofNat d) 0 0).1, (f_X3_passDays_L4 fu p C (Int32.ofNat d) 0 0).2) := by
        unfold f_X3_passDays
        simp only [nm_eq]
      have em : (f_X7_waits (rs M R) (Int32.ofNat d)).1 = (f_X3_passDays_L4 fu p C (Int32.ofNat d) 0 0).1 := by
        simp only [f_X7_waits, nm_eq, hy, goes_1, i10, if_false, smi_rs, q4]
      show ok_X3_passDays p C (Int32.ofNat d) ∧ Fr p C (f_X3_passDays p C (Int32.ofNat d)).2 ∧ Ti 0 n 0 0 t2 (f_X3_passDays p C (Int32.ofNat d)).2 p R2 ∧ (f_X3_passDays p C (Int32.ofNat d)).1 = _
      rw [ec, em]
      exact ⟨q1, q8, q6, rfl⟩
  · refine ⟨trivial, ?_, Or.inl ⟨0, ?_, ?_⟩⟩
    · rintro _ rfl
      rw [hy]
      refine ⟨okgoes (Or.inl rfl), ?_⟩
      rintro _ rfl
      rw [goes_0]
      exact ⟨fun _ => trivial, fun h9 => absurd rfl h9⟩
    · simp only [f_X3_endDaysFault, nm_eq, isIn_6, hy, if_true]
      rfl
    · simp only [f_X7_waits, nm_eq, hy, goes_0, if_true]
      rfl
