/-! the pure part: withdrawals, limits, openings -/
def drwR (R : Nat → Int32) (i : Nat) (y : Int32) : Nat → Int32 := jw (ur (ur (ur R (13 + 4 * i) (R (13 + 4 * i) + -y)) (15 + 4 * i) 1) 6 (ur (ur R (13 + 4 * i) (R (13 + 4 * i) + -y)) (15 + 4 * i) 1 6 + y)) 119 y (Int32.ofNat i)
theorem drw_at (R : Nat → Int32) (i : Nat) (y : Int32) (hi : i < 8) : (∀ j, j < 94 → j ≠ 13 + 4 * i → j ≠ 15 + 4 * i → j ≠ 6 → j ≠ 11 → drwR R i y j = R j) ∧ drwR R i y (13 + 4 * i) = R (13 + 4 * i) + -y ∧ drwR R i y (15 + 4 * i) = 1 ∧ drwR R i y 6 = R 6 + y := by
  unfold drwR
  refine ⟨fun j a1 a2 a3 a4 a5 => ?_, ?_, ?_, ?_⟩
  · rw [jw_lo _ _ _ _ a1 a5, ur_ne _ _ a4, ur_ne _ _ a3, ur_ne _ _ a2]
  · rw [jw_lo _ _ _ _ (by omega) (by omega), ur_ne _ _ (by omega), ur_ne _ _ (by omega), ur_eq]
  · rw [jw_lo _ _ _ _ (by omega) (by omega), ur_ne _ _ (by omega), ur_eq]
  · rw [jw_lo _ _ _ _ (by omega) (by omega), ur_eq, ur_ne _ _ (by omega), ur_ne _ _ (by omega)]
theorem drw_RB {e n t i : Nat} {R : Nat → Int32} {y : Int32} (h : RB e (60 * e) n t 0 0 R) (he : e < 600) (hi : i < n) (h1 : 1 ≤ y.toInt) (h2 : y.toInt ≤ 999) (h3 : y.toInt ≤ (R (13 + 4 * i)).toInt + (R (14 + 4 * i)).toInt) : RB (e + 1) (60 * (e + 1)) n t 0 0 (drwR R i y) := by
  have hA := h.1
  have hS := h.2.2
  have hn : n ≤ 8 := hA.1
  have b := bA_at hA hi
  unfold bS at hS
  simp only [Nat.not_lt_zero, if_false] at b
  have v1 : (R (13 + 4 * i) + -y).toInt = (R (13 + 4 * i)).toInt - y.toInt := by
    rw [← Int32.sub_eq_add_neg]
    exact i32_sub (by omega) (by omega)
  have v2 : (R 6 + y).toInt = (R 6).toInt + y.toInt := i32_add (by omega) (by omega)
  obtain ⟨qn, qb, qt, q6⟩ := drw_at R i y (by omega)
  refine RB_acc h hi (Nat.le_refl 0) (qn 0 (by omega) (by omega) (by omega) (by omega) (by omega)) (qn 1 (by omega) (by omega) (by omega) (by omega) (by omega)) (qn 2 (by omega) (by omega) (by omega) (by omega) (by omega)) (qn 3 (by omega) (by omega) (by omega) (by omega) (by omega)) (fun j a1 a2 => qn j a2 (by omega) (by omega) (by omega) (by omega)) (fun j a1 a2 a3 a4 a5 => qn j (by omega) a3 a5 (by omega) (by omega)) ?_ ?_
  · rw [qb, qt, qn (14 + 4 * i) (by omega) (by omega) (by omega) (by omega) (by omega), v1]
    simp only [Nat.not_lt_zero, if_false]
    refine ⟨Or.inr trivial, b.2.2.2.1, b.2.2.2.2.1, b.2.2.2.2.2.1, by omega, by omega⟩
  · unfold bS
    rw [qn 0 (by omega) (by omega) (by omega) (by omega) (by omega), qn 2 (by omega) (by omega) (by omega) (by omega) (by omega), qn 5 (by omega) (by omega) (by omega) (by omega) (by omega), q6, qn 7 (by omega) (by omega) (by omega) (by omega) (by omega), qn 8 (by omega) (by omega) (by omega) (by omega) (by omega), qn 9 (by omega) (by omega) (by omega) (by omega) (by omega), v2]
    omega
theorem drw_m {M : StM} {R : Nat → Int32} {n : Nat} {x y : Int32} (h1 : R 1 = Int32.ofNat n) (hn : n ≤ 8) : ok_X7_draws (rs M R) x y ∧ (¬ acc n x → f_X7_draws (rs M R) x y = (0, rs (smi M 15 1) R)) ∧ (acc n x → f_X7_isIn y 1 999 = 0 → f_X7_draws (rs M R) x y = (0, rs (smi M 15 2) R)) ∧ ∀ i, i < n → x = Int32.ofNat i → f_X7_isIn y 1 999 = 1 → (R (13 + 4 * i) + R (14 + 4 * i) < y → f_X7_draws (rs M R) x y = (0, rs (smi M 15 3) R)) ∧ (¬ R (13 + 4 * i) + R (14 + 4 * i) < y → f_X7_draws (rs M R) x y = (drwR R i y (13 + 4 * i), rs (smi M 15 0) (drwR R i y))) := by
  have e15 : ∀ i, 12 + 4 * i + 3 = 15 + 4 * i := fun i => by omega
  have okJ : ∀ s0 s1 s2, (s2 = 1 → acc n x) → (s0 = 0 ∨ s0 = 1) → (s1 = 0 ∨ s1 = 1) → (s2 = 0 ∨ s2 = 1) → ok_X7_draws_J38 (rs M R) x y s0 s1 s2 := by
    intro s0 s1 s2 hx a0 a1 a2
    rintro _ rfl
    rcases a2 with rfl | rfl
    · simp only [holds_1, true_implies, not_true_eq_false, false_implies, and_self]
    · rcases a1 with rfl | rfl
      · simp only [holds_2, true_implies, not_true_eq_false, false_implies, and_self]
      · rcases a0 with rfl | rfl
        · simp only [holds_3, true_implies, not_true_eq_false, false_implies, and_self]
        · obtain ⟨i, hi, rfl⟩ := acc_o (hx rfl)
          have x15 : ix (Int32.ofNat (15 + 4 * i)) = 15 + 4 * i := ix_o (by omega)
          have v15 : vp_in (Int32.ofNat (15 + 4 * i)) 124 := in_o (by omega) (by omega)
          rw [holds_0]
          refine ⟨fun _ => trivial, fun _ => ⟨?_, ?_⟩⟩
          · exact (chg_R (R := R) (M := smi M 15 0) (by omega)).2
          · rintro _ rfl
            rintro _ rfl
            simp only [f_X7_accountAt, oacc, oad3, e15]
            refine ⟨v15, ?_⟩
            rintro _ rfl
            rintro _ rfl
            have e1 := (chg_R (R := R) (M := smi M 15 0) (i := i) (d := -y) (by omega)).1
            simp only [smi_rs, e1, sma_rs, x15]
            refine ⟨(wri_R _ _ _ _ _).2, ?_⟩
            rintro _ rfl
            rw [(wri_R _ _ _ _ _).1]
            refine ok_of1 ?_ hn
            rw [jw_lo _ _ _ _ (by omega) (by omega), ur_ne _ _ (by simp only [ixl]; omega), ur_ne _ _ (by omega), ur_ne _ _ (by omega)]
            exact h1
  have hx1 : f_X7_isAccount (rs M R) x = 1 → acc n x := by
    intro e
    by_cases hx : acc n x
    · exact hx
    · rw [isAcc_0 h1 hn hx] at e
      exact absurd e (by decide)
  have hx2 : f_X7_isAccount (rs M R) x = 0 ∨ f_X7_isAccount (rs M R) x = 1 := isIn01 _ _ _
  refine ⟨?_, ?_, ?_, ?_⟩
  · refine ⟨okAmt _, ?_⟩
    rintro _ rfl
    refine ⟨okisAcc _ _, ?_⟩
    rintro _ rfl
    refine ⟨fun _ => okJ _ _ _ hx1 (Or.inl rfl) (isIn01 _ _ _) hx2, fun _ => ⟨ok_of1 h1 hn, ?_⟩⟩
    rintro _ rfl
    refine ⟨ok_of2 h1 hn, ?_⟩
    rintro _ rfl
    exact ⟨fun _ => okJ _ _ _ hx1 (Or.inl rfl) (isIn01 _ _ _) hx2, fun _ => okJ _ _ _ hx1 (Or.inr rfl) (isIn01 _ _ _) hx2⟩
  · intro hx
    simp only [f_X7_draws, f_X7_draws_J37, f_X7_draws_J38, nm_eq, isAcc_0 h1 hn hx, holds_1, if_true, smi_rs, ite_self]
  · intro hx hy
    simp only [f_X7_draws, f_X7_draws_J37, f_X7_draws_J38, nm_eq, isAcc_1 h1 hn hx, isAmt, hy, holds_2, if_true, smi_rs]
  · intro i hi hxi hy
    subst hxi
    have hx : acc n (Int32.ofNat i) := o_acc hi hn
    have x15 : ix (Int32.ofNat (15 + 4 * i)) = 15 + 4 * i := ix_o (by omega)
    refine ⟨fun h => ?_, fun h => ?_⟩
    · simp only [f_X7_draws, f_X7_draws_J37, f_X7_draws_J38, nm_eq, isAcc_1 h1 hn hx, isAmt, hy, i10, if_false, of_1 h1 hn hi, of_2 h1 hn hi, if_pos h, holds_3, if_true, smi_rs]
    · have e1 : drwR R i y 1 = Int32.ofNat n := by
        rw [← h1]
        exact (drw_at R i y (by omega)).1 1 (by omega) (by omega) (by omega) (by omega) (by omega)
      simp only [f_X7_draws, f_X7_draws_J37, f_X7_draws_J38, nm_eq, isAcc_1 h1 hn hx, isAmt, hy, i10, if_false, of_1 h1 hn hi, of_2 h1 hn hi, if_neg h, holds_0, smi_rs, (chg_R (R := R) (M := smi M 15 0) (i := i) (d := -y) (by omega)).1, f_X7_accountAt, oacc, oad3, e15, x15, ixl, sma_rs, ma_rs0, (wri_R _ _ _ _ _).1]
      exact congrArg (fun v => (v, rs (smi M 15 0) (drwR R i y))) (of_1 (M := smi M 15 0) e1 hn hi)
theorem drw_d {e n t p i : Nat} {B : StB} {R : Nat → Int32} {y : Int32} (hT : Ti 0 n 0 0 t B p R) (hR : RB e (60 * e) n t 0 0 R) (hi : i < n) (y1 : 1 ≤ y.toInt) (y2 : y.toInt ≤ 999) : ok_X3_payOut p B (Int32.ofNat i) y ∧ Fr p B (f_X3_payOut p B (Int32.ofNat i) y).2 ∧ Ti 0 n 0 0 t (f_X3_payOut p B (Int32.ofNat i) y).2 p (drwR R i y) ∧ (f_X3_payOut p B (Int32.ofNat i) y).1 = drwR R i y (13 + 4 * i) := by
  have hn := (Ti_n hT).2.2
  have hS := hR.2.2
  unfold bS at hS
  have e6 : ur (ur R (13 + 4 * i) (R (13 + 4 * i) + -y)) (15 + 4 * i) 1 6 = R 6 := by
    rw [ur_ne _ _ (by omega), ur_ne _ _ (by omega)]
  have g1 : 1 ≤ y := i32_le.mpr (by rw [lit.2.1]; exact y1)
  have h1 := Ti_bal (-y) hT hi
  have h2 := Ti_tch (v := 1) h1 hi (Or.inr rfl)
  have h3 := Ti_wdr y h2 (by rw [e6]; omega) (by rw [e6]; omega)
  have h4 := Ti_jw (k := 119) (a := y) (u := Int32.ofNat i) h3 (by unfold jk; simp) g1
  have hx : ix (Int32.ofNat i) = i := ix_o (by omega)
  have hv : vp_in (Int32.ofNat i) 8 := in_o (by omega) (by omega)
  refine ⟨?_, ?_, ?_, ?_⟩
  · refine ⟨hv, hv, ?_⟩
    rintro _ rfl
    refine ⟨hv, ?_⟩
    rintro _ rfl
    rintro _ rfl
    rw [hx, Int32.sub_eq_add_neg]
    refine ⟨h4.2.1, ?_⟩
    rintro _ rfl
    exact hv
  · simp only [f_X3_payOut, nm_eq, hx, Int32.sub_eq_add_neg]
    exact h4.2.2 B (Fr_l0 (Fr_a (Fr_a (Fr_r p B) 3 _ _ (by decide)) 5 _ _ (by decide)) _ _)
  · simp only [f_X3_payOut, nm_eq, hx, Int32.sub_eq_add_neg]
    exact h4.1
  · simp only [f_X3_payOut, nm_eq, hx, Int32.sub_eq_add_neg]
    exact Ti_b h4.1 hi
theorem CS_drw {e n t p : Nat} {B : StB} {R : Nat → Int32} (M : StM) (x y : Int32) (hT : Ti 0 n 0 0 t B p R) (hR : RB e (60 * e) n t 0 0 R) (he : e < 600) : CS e n t p B R M (f_X3_payOutFault p B x y) (ok_X3_payOutFault p B x y) (fun C => f_X3_payOut p C x y) (fun C => ok_X3_payOut p C x y) (f_X7_draws (rs M R) x y) (ok_X7_draws (rs M R) x y) [1, 2, 4] := by
  obtain ⟨b1, b2, b3⟩ := Ti_n hT
  obtain ⟨okm, m1, m2, m3⟩ := drw_m (M := M) (x := x) (y := y) b2 b3
  have l := lit
  by_cases hx : acc n x
  · obtain ⟨i, hi, rfl⟩ := acc_o hx
    obtain ⟨av, oav⟩ := av_C hT hi
    have bb := bA_at hR.1 hi
    have hS := hR.2.2
    unfold bS at hS
    simp only [Nat.not_lt_zero, if_false] at bb
    rcases isIn_c y 1 999 with ⟨hy, y1, y2⟩ | ⟨hy, _⟩
    · have a0 := argf_0 (p := p) (B := B) (lo := 1) (hi := 999) b1 (by omega) hx hy
      obtain ⟨m3, m4⟩ := m3 i hi rfl hy
      have v1 : (R (13 + 4 * i) + R (14 + 4 * i)).toInt = (R (13 + 4 * i)).toInt + (R (14 + 4 * i)).toInt := i32_add (by omega) (by omega)
      refine ⟨?_, okm, ?_⟩
      · rintro _ rfl
        exact ⟨fun _ => oav, fun _ => trivial⟩
      · by_cases hb : R (13 + 4 * i) + R (14 + 4 * i) < y
        · left
          refine ⟨2, ?_, ?_⟩
          · simp only [f_X3_payOutFault, nm_eq, a0, if_true, av]
            rw [if_neg (by rw [i32_le]; rw [i32_lt] at hb; omega)]
            rfl
          · rw [m3 hb]
            rfl
        · right
          have hb' := hb
          rw [i32_lt] at hb
          refine ⟨?_, n, t, drwR R i y, mi M 10, ?_, drw_RB hR he hi (by omega) (by omega) (by omega), ?_⟩
          · simp only [f_X3_payOutFault, nm_eq, a0, if_true, av]
            rw [if_pos (by rw [i32_le]; omega)]
          · rw [m4 hb', ← smi10]
          · intro C hC
            obtain ⟨d1, d2, d3, d4⟩ := drw_d hC hR hi (y := y) (by omega) (by omega)
            exact ⟨d1, d2, d3, by rw [m4 hb']; exact d4⟩
    · have a0 := argf_2 (p := p) (B := B) (lo := 1) (hi := 999) b1 (by omega) hx hy
      refine ⟨?_, okm, Or.inl ⟨1, ?_, ?_⟩⟩
      · rintro _ rfl
        exact ⟨fun _ => oav, fun _ => trivial⟩
      · simp only [f_X3_payOutFault, nm_eq, a0]
        rw [if_neg (by decide)]
        rfl
      · rw [m2 hx hy]
        rfl
  · have a0 := argf_1 (p := p) (B := B) (y := y) (lo := 1) (hi := 999) b1 (by omega) hx
    refine ⟨?_, okm, Or.inl ⟨0, ?_, ?_⟩⟩
    · rintro _ rfl
      rw [a0]
      exact ⟨fun h => absurd h (by decide), fun _ => trivial⟩
    · simp only [f_X3_payOutFault, nm_eq, a0]
      rw [if_neg (by decide)]
      rfl
    · rw [m1 hx]
      rfl
/-! limits -/
theorem even_k {v : Int32} (h : 0 ≤ v.toInt) (h2 : v.toInt ≤ 3) : ((v - v / 2 * 2 = 0) ∧ v ≠ 1 ∧ v ≠ 3 ∧ v.toInt % 2 = 0) ∨ (¬ (v - v / 2 * 2 = 0) ∧ (v = 1 ∨ v = 3)) := by
  rcases kind4 h h2 with rfl | rfl | rfl | rfl <;> decide
theorem lim_RB {e n t i : Nat} {R : Nat → Int32} {y : Int32} (h : RB e (60 * e) n t 0 0 R) (he : e < 600) (hi : i < n) (h1 : 0 ≤ y.toInt) (h2 : y.toInt ≤ 500) (h3 : -y.toInt ≤ (R (13 + 4 * i)).toInt) (hk : (R (12 + 4 * i)).toInt % 2 = 0) : RB (e + 1) (60 * (e + 1)) n t 0 0 (ur R (14 + 4 * i) y) := by
  have hA := h.1
  have hS := h.2.2
  have hn : n ≤ 8 := hA.1
  have b := bA_at hA hi
  refine RB_acc h hi (Nat.le_refl 0) (ur_ne _ _ (by omega)) (ur_ne _ _ (by omega)) (ur_ne _ _ (by omega)) (ur_ne _ _ (by omega)) (fun j a1 a2 => ur_ne _ _ (by omega)) (fun j a1 a2 a3 a4 a5 => ur_ne _ _ a4) ?_ ?_
  · rw [ur_eq, ur_ne (j := 13 + 4 * i) _ _ (by omega), ur_ne (j := 15 + 4 * i) _ _ (by omega)]
    exact ⟨b.2.2.1, h1, h2, fun h9 => by omega, by omega, b.2.2.2.2.2.2.2⟩
  · unfold bS at hS ⊢
    rw [ur_ne (j := 0) _ _ (by omega), ur_ne (j := 2) _ _ (by omega), ur_ne (j := 5) _ _ (by omega), ur_ne (j := 6) _ _ (by omega), ur_ne (j := 7) _ _ (by omega), ur_ne (j := 8) _ _ (by omega), ur_ne (j := 9) _ _ (by omega)]
    omega
theorem CS_lim {e n t p : Nat} {B : StB} {R : Nat → Int32} (M : StM) (x y : Int32) (hT : Ti 0 n 0 0 t B p R) (hR : RB e (60 * e) n t 0 0 R) (he : e < 600) : CS e n t p B R M (f_X3_limitFault p B x y) (ok_X3_limitFault p B x y) (fun C => f_X0_changeLimit (p + 1) C x y) (fun C => ok_X0_changeLimit (p + 1) C x y) (f_X7_limits (rs M R) x y) (ok_X7_limits (rs M R) x y) [1, 2, 3, 4] := by
  obtain ⟨b1, b2, b3⟩ := Ti_n hT
  have l := lit
  have e14 : ∀ i, 12 + 4 * i + 2 = 14 + 4 * i := fun i => by omega
  have okJ : ∀ a5 s0 s1 s2 s3, (s3 = 1 → acc n x) → (s0 = 0 ∨ s0 = 1) → (s1 = 0 ∨ s1 = 1) → (s2 = 0 ∨ s2 = 1) → (s3 = 0 ∨ s3 = 1) → ok_X7_limits_J64 (rs M R) x y a5 s0 s1 s2 s3 := by
    intro a5 s0 s1 s2 s3 hx a0 a1 a2 a3
    rintro _ rfl
    rcases a3 with rfl | rfl
    · simp only [holds_1, true_implies, not_true_eq_false, false_implies, and_self]
    · rcases a2 with rfl | rfl
      · simp only [holds_2, true_implies, not_true_eq_false, false_implies, and_self]
      · rcases a1 with rfl | rfl
        · simp only [holds_3, true_implies, not_true_eq_false, false_implies, and_self]
        · rcases a0 with rfl | rfl
          · simp only [holds_4, true_implies, not_true_eq_false, false_implies, and_self]
          · obtain ⟨i, hi, rfl⟩ := acc_o (hx rfl)
            refine ⟨fun _ => trivial, fun _ => ?_⟩
            rintro _ rfl
            simp only [f_X7_accountAt, oacc, oad2, e14]
            exact in_o (by omega) (by omega)
  have hx1 : f_X7_isAccount (rs M R) x = 1 → acc n x := by
    intro e
    by_cases hx : acc n x
    · exact hx
    · rw [isAcc_0 b2 b3 hx] at e
      exact absurd e (by decide)
  have hx2 : f_X7_isAccount (rs M R) x = 0 ∨ f_X7_isAccount (rs M R) x = 1 := isIn01 _ _ _
  have okm : ok_X7_limits (rs M R) x y := by
    rintro _ rfl
    refine ⟨ok_of0 b2 b3, ?_⟩
    rintro _ rfl
    have ok25 : ∀ s0, (s0 = 0 ∨ s0 = 1) → ok_X7_limits_J25 (rs M R) x y (f_X7_isIn y 0 500) s0 := by
      intro s0 h0
      refine ⟨ok_of2 b2 b3, ?_⟩
      rintro _ rfl
      refine ⟨okisAcc _ _, ?_⟩
      rintro _ rfl
      refine ⟨fun _ => okJ _ _ _ _ _ hx1 (Or.inl rfl) h0 (isIn01 _ _ _) hx2, fun _ => ⟨ok_of1 b2 b3, ?_⟩⟩
      rintro _ rfl
      exact ⟨fun _ => okJ _ _ _ _ _ hx1 (Or.inl rfl) h0 (isIn01 _ _ _) hx2, fun _ => okJ _ _ _ _ _ hx1 (Or.inr rfl) h0 (isIn01 _ _ _) hx2⟩
    exact ⟨fun _ => ok25 1 (Or.inr rfl), fun _ => ok25 0 (Or.inl rfl)⟩
  by_cases hx : acc n x
  · obtain ⟨i, hi, rfl⟩ := acc_o hx
    have hv : vp_in (Int32.ofNat i) 8 := in_o (by omega) (by omega)
    have hxx : ix (Int32.ofNat i) = i := ix_o (by omega)
    have x14 : ix (Int32.ofNat (14 + 4 * i)) = 14 + 4 * i := ix_o (by omega)
    have bb := bA_at hR.1 hi
    have hS := hR.2.2
    unfold bS at hS
    simp only [Nat.not_lt_zero, if_false] at bb
    rcases isIn_c y 0 500 with ⟨hy, y1, y2⟩ | ⟨hy, _⟩
    · have a0 := argf_0 (p := p) (B := B) (lo := 0) (hi := 500) b1 (by omega) hx hy
      have okf : ok_X3_limitFault p B (Int32.ofNat i) y := by
        rintro _ rfl
        refine ⟨fun _ => ⟨hv, ?_⟩, fun _ => trivial⟩
        rintro _ rfl
        exact ⟨fun _ => trivial, fun _ => ⟨fun _ => trivial, fun _ => hv⟩⟩
      refine ⟨okf, okm, ?_⟩
      have v1 : (R (13 + 4 * i) + y).toInt = (R (13 + 4 * i)).toInt + y.toInt := i32_add (by omega) (by omega)
      have vn : (-y).toInt = -y.toInt := i32_neg (by omega)
      rcases even_k bb.1 bb.2.1 with ⟨k1, k2, k3, k4⟩ | ⟨k1, k2⟩
      · have ef : f_X3_limitFault p B (Int32.ofNat i) y = if -y ≤ R (13 + 4 * i) then 0 else 4 := by
          simp only [f_X3_limitFault, nm_eq, a0, if_true, hxx, Ti_k hT hi, Ti_b hT hi, if_neg k2, if_neg k3]
        by_cases hb : R (13 + 4 * i) + y < 0
        · left
          rw [i32_lt] at hb
          refine ⟨3, ?_, ?_⟩
          · rw [ef, if_neg (by rw [i32_le]; omega)]
            rfl
          · simp only [f_X7_limits, f_X7_limits_J25, f_X7_limits_J63, f_X7_limits_J64, nm_eq, of_0 b2 b3 hi, of_1 b2 b3 hi, of_2 b2 b3 hi, if_pos k1, hy, isAcc_1 b2 b3 hx, i10, if_false, if_pos (i32_lt.mpr hb), holds_4, if_true]
            rfl
        · right
          have hb' := hb
          rw [i32_lt] at hb
          have em : f_X7_limits (rs M R) (Int32.ofNat i) y = (R (14 + 4 * i), rs (smi M 15 0) (ur R (14 + 4 * i) y)) := by
            simp only [f_X7_limits, f_X7_limits_J25, f_X7_limits_J63, f_X7_limits_J64, nm_eq, of_0 b2 b3 hi, of_1 b2 b3 hi, of_2 b2 b3 hi, if_pos k1, hy, isAcc_1 b2 b3 hx, i10, if_false, if_neg hb', holds_0, f_X7_accountAt, oacc, oad2, e14, x14, smi_rs, sma_rs]
          rw [em]
          refine ⟨?_, n, t, ur R (14 + 4 * i) y, mi M 10, ?_, lim_RB hR he hi (by omega) (by omega) (by omega) k4, ?_⟩
          · rw [ef, if_pos (by rw [i32_le]; omega)]
          · rw [← smi10]
          · intro C hC
            have p4 : p + 1 + 3 = p + 4 := by omega
            have ec : f_X0_changeLimit (p + 1) C (Int32.ofNat i) y = (R (14 + 4 * i), sba C (p + 4) i y) := by
              simp only [f_X0_changeLimit, nm_eq, hxx, p4, Ti_l hC hi]
            refine ⟨⟨hv, fun _ _ => hv⟩, ?_⟩
            show Fr p C (f_X0_changeLimit (p + 1) C (Int32.ofNat i) y).2 ∧ Ti 0 n 0 0 t (f_X0_changeLimit (p + 1) C (Int32.ofNat i) y).2 p _ ∧ (f_X0_changeLimit (p + 1) C (Int32.ofNat i) y).1 = _
            rw [ec]
            exact ⟨Fr_a (Fr_r p C) 4 _ _ (by decide), Ti_lim0 y hC (by omega), rfl⟩
      · left
        refine ⟨2, ?_, ?_⟩
        · have ef : f_X3_limitFault p B (Int32.ofNat i) y = 3 := by
            simp only [f_X3_limitFault, nm_eq, a0, if_true, hxx, Ti_k hT hi]
            rcases k2 with k2 | k2
            · rw [if_pos k2]
            · rw [k2, if_neg (by decide), if_pos rfl]
          rw [ef]
          rfl
        · by_cases hb : R (13 + 4 * i) + y < 0
          · simp only [f_X7_limits, f_X7_limits_J25, f_X7_limits_J63, f_X7_limits_J64, nm_eq, of_0 b2 b3 hi, of_1 b2 b3 hi, of_2 b2 b3 hi, if_neg k1, hy, isAcc_1 b2 b3 hx, i10, if_false, if_pos hb, holds_3, if_true]
            rfl
          · simp only [f_X7_limits, f_X7_limits_J25, f_X7_limits_J63, f_X7_limits_J64, nm_eq, of_0 b2 b3 hi, of_1 b2 b3 hi, of_2 b2 b3 hi, if_neg k1, hy, isAcc_1 b2 b3 hx, i10, if_false, if_neg hb, holds_3, if_true]
            rfl
    · have a0 := argf_2 (p := p) (B := B) (lo := 0) (hi := 500) b1 (by omega) hx hy
      refine ⟨?_, okm, Or.inl ⟨1, ?_, ?_⟩⟩
      · rintro _ rfl
        rw [a0]
        exact ⟨fun h => absurd h (by decide), fun _ => trivial⟩
      · simp only [f_X3_limitFault, nm_eq, a0]
        rw [if_neg (by decide)]
        rfl
      · simp only [f_X7_limits, f_X7_limits_J25, f_X7_limits_J63, f_X7_limits_J64, nm_eq, hy, isAcc_1 b2 b3 hx, if_true, holds_2]
        split <;> rfl
  · have a0 := argf_1 (p := p) (B := B) (y := y) (lo := 0) (hi := 500) b1 (by omega) hx
    refine ⟨?_, okm, Or.inl ⟨0, ?_, ?_⟩⟩
    · rintro _ rfl
      rw [a0]
      exact ⟨fun h => absurd h (by decide), fun _ => trivial⟩
    · simp only [f_X3_limitFault, nm_eq, a0]
      rw [if_neg (by decide)]
      rfl
    · simp only [f_X7_limits, f_X7_limits_J25, f_X7_limits_J63, f_X7_limits_J64, nm_eq, isAcc_0 b2 b3 hx, if_true, holds_1, ite_self]
      rfl
