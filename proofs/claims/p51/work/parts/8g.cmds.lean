/-! the pure part: the commands -/
theorem i10 : ((1 : Int32) = 0) = False := eq_false (by decide)
theorem i01 : ((0 : Int32) = 1) = False := eq_false (by decide)
theorem okAmt (x : Int32) : ok_X7_isAmount x := by
  rintro _ rfl
  exact nar01 (isIn01 _ _ _)
theorem has_1 {B : StB} {q n : Nat} {x : Int32} (h : bi B q 0 = Int32.ofNat n) (hn : n ≤ 10) (hx : acc n x) : f_X0_has q B x = 1 := by
  unfold f_X0_has
  have e0 : (0 : Int32).toInt = 0 := by decide
  have en := ofN_toInt (a := n) (by omega)
  unfold acc at hx
  rw [if_neg (by rw [i32_lt]; omega), if_neg (by rw [h, i32_le]; omega)]
theorem has_0 {B : StB} {q n : Nat} {x : Int32} (h : bi B q 0 = Int32.ofNat n) (hn : n ≤ 10) (hx : ¬ acc n x) : f_X0_has q B x = 0 := by
  unfold f_X0_has
  have e0 : (0 : Int32).toInt = 0 := by decide
  have en := ofN_toInt (a := n) (by omega)
  unfold acc at hx
  by_cases h1 : x < 0
  · rw [if_pos h1]
  · rw [if_neg h1, if_pos (by rw [i32_lt] at h1; rw [h, i32_le]; omega)]
theorem argf_1 {B : StB} {p n : Nat} {x y lo hi : Int32} (h : bi B (p + 1) 0 = Int32.ofNat n) (hn : n ≤ 10) (hx : ¬ acc n x) : f_X3_argumentFault p B x y lo hi = 1 := by
  simp only [f_X3_argumentFault, nm_eq, has_0 h hn hx, if_true]
theorem argf_2 {B : StB} {p n : Nat} {x y lo hi : Int32} (h : bi B (p + 1) 0 = Int32.ofNat n) (hn : n ≤ 10) (hx : acc n x) (hy : f_X7_isIn y lo hi = 0) : f_X3_argumentFault p B x y lo hi = 2 := by
  simp only [f_X3_argumentFault, nm_eq, has_1 h hn hx, isIn_6, hy, if_true, i10, if_false]
theorem argf_0 {B : StB} {p n : Nat} {x y lo hi : Int32} (h : bi B (p + 1) 0 = Int32.ofNat n) (hn : n ≤ 10) (hx : acc n x) (hy : f_X7_isIn y lo hi = 1) : f_X3_argumentFault p B x y lo hi = 0 := by
  simp only [f_X3_argumentFault, nm_eq, has_1 h hn hx, isIn_6, hy, i10, if_false]
theorem RB_mono {e D e' D' n t m a : Nat} {R : Nat → Int32} (h : RB e D n t m a R) (h1 : e ≤ e') (h2 : D ≤ D') (h3 : e' ≤ 600) (h4 : D' ≤ 37000) : RB e' D' n t m a R := by
  obtain ⟨hA, hT, hS⟩ := h
  refine ⟨hA, hT, ?_⟩
  unfold bS at hS ⊢
  omega
/-- a command of the class against one of the model: fault and change -/
def CS (e n t p : Nat) (B : StB) (R : Nat → Int32) (M : StM) (flt : Int32) (okf : Prop) (op : StB → Int32 × StB) (okop : StB → Prop) (mr : Int32 × StM) (okm : Prop) (codes : List Int32) : Prop := okf ∧ okm ∧ ((∃ j, codes[j]? = some flt ∧ mr.2 = rs (smi M 15 (Int32.ofNat (j + 1))) R) ∨ (flt = 0 ∧ ∃ n' t' R' v, mr.2 = rs (smi (smi M 15 0) 10 v) R' ∧ RB (e + 1) (60 * (e + 1)) n' t' 0 0 R' ∧ ∀ C, Ti 0 n 0 0 t C p R → okop C ∧ Fr p C (op C).2 ∧ Ti 0 n' 0 0 t' (op C).2 p R' ∧ (op C).1 = mr.1))
theorem smi10 (M : StM) : smi M 15 0 = smi (smi M 15 0) 10 (mi M 10) := by
  have : smi (smi M 15 0) 10 (mi (smi M 15 0) 10) = smi M 15 0 := smi_self _ _
  exact this.symm
/-- the bounds of accounts in the middle -/
theorem bA_at {n t a i : Nat} {R : Nat → Int32} (h : bA n t a R) (hi : i < n) : 0 ≤ (R (12 + 4 * i)).toInt ∧ (R (12 + 4 * i)).toInt ≤ 3 ∧ (R (15 + 4 * i) = 0 ∨ R (15 + 4 * i) = 1) ∧ 0 ≤ (R (14 + 4 * i)).toInt ∧ (R (14 + 4 * i)).toInt ≤ 500 ∧ ((R (12 + 4 * i)).toInt % 2 = 1 → (R (14 + 4 * i)).toInt = 0) ∧ -(R (14 + 4 * i)).toInt ≤ (R (13 + 4 * i)).toInt ∧ (R (13 + 4 * i)).toInt + 999 * (t : Int) ≤ 9999 + 999 * (R 2).toInt + 495 * (R 0).toInt + (if i < a then 495 else 0) := h.2.2 i hi
/-- deposits -/
def payR (R : Nat → Int32) (i : Nat) (y : Int32) : Nat → Int32 := jw (ur (ur R (13 + 4 * i) (R (13 + 4 * i) + y)) 5 (ur R (13 + 4 * i) (R (13 + 4 * i) + y) 5 + y)) 100 y (Int32.ofNat i)
theorem lit : (0 : Int32).toInt = 0 ∧ (1 : Int32).toInt = 1 ∧ (2 : Int32).toInt = 2 ∧ (3 : Int32).toInt = 3 ∧ (5 : Int32).toInt = 5 ∧ (8 : Int32).toInt = 8 ∧ (10 : Int32).toInt = 10 ∧ (30 : Int32).toInt = 30 ∧ (50 : Int32).toInt = 50 ∧ (60 : Int32).toInt = 60 ∧ (100 : Int32).toInt = 100 ∧ (500 : Int32).toInt = 500 ∧ (999 : Int32).toInt = 999 ∧ (9999 : Int32).toInt = 9999 := by decide
theorem RB_acc {e D e' D' n t m a a' i : Nat} {R R' : Nat → Int32} (h : RB e D n t m a R) (hi : i < n) (haa : a ≤ a') (q0 : R' 0 = R 0) (q1 : R' 1 = R 1) (q2 : R' 2 = R 2) (q3 : R' 3 = R 3) (qT : ∀ j, 44 ≤ j → j < 94 → R' j = R j) (qA : ∀ j, 12 ≤ j → j < 44 → j ≠ 13 + 4 * i → j ≠ 14 + 4 * i → j ≠ 15 + 4 * i → R' j = R j) (c : (R' (15 + 4 * i) = 0 ∨ R' (15 + 4 * i) = 1) ∧ 0 ≤ (R' (14 + 4 * i)).toInt ∧ (R' (14 + 4 * i)).toInt ≤ 500 ∧ ((R (12 + 4 * i)).toInt % 2 = 1 → (R' (14 + 4 * i)).toInt = 0) ∧ -(R' (14 + 4 * i)).toInt ≤ (R' (13 + 4 * i)).toInt ∧ (R' (13 + 4 * i)).toInt + 999 * (t : Int) ≤ 9999 + 999 * (R 2).toInt + 495 * (R 0).toInt + (if i < a' then 495 else 0)) (hS : bS e' D' t a' R') : RB e' D' n t m a' R' := by
  obtain ⟨hA, hT, hS0⟩ := h
  have hn : n ≤ 8 := hA.1
  refine ⟨⟨hn, by rw [q1]; exact hA.2.1, fun j hj => ?_⟩, ?_, hS⟩
  · have d := bA_at hA hj
    by_cases hji : j = i
    · subst hji
      rw [qA (12 + 4 * j) (by omega) (by omega) (by omega) (by omega) (by omega), q0, q2]
      exact ⟨d.1, d.2.1, c⟩
    · rw [qA (12 + 4 * j) (by omega) (by omega) (by omega) (by omega) (by omega), qA (13 + 4 * j) (by omega) (by omega) (by omega) (by omega) (by omega), qA (14 + 4 * j) (by omega) (by omega) (by omega) (by omega) (by omega), qA (15 + 4 * j) (by omega) (by omega) (by omega) (by omega) (by omega), q0, q2]
      refine ⟨d.1, d.2.1, d.2.2.1, d.2.2.2.1, d.2.2.2.2.1, d.2.2.2.2.2.1, d.2.2.2.2.2.2.1, ?_⟩
      have d8 := d.2.2.2.2.2.2.2
      split at d8 <;> split <;> omega
  · obtain ⟨t1, t2, t3, t4, t5⟩ := hT
    refine ⟨t1, by rw [q3]; exact t2, fun k hk => ?_, fun k hk hk2 => ?_, fun j k hj hk => ?_⟩
    · rw [qT (44 + 5 * k) (by omega) (by omega), qT (45 + 5 * k) (by omega) (by omega), qT (46 + 5 * k) (by omega) (by omega), qT (47 + 5 * k) (by omega) (by omega), qT (48 + 5 * k) (by omega) (by omega), q0, q2]
      exact t3 k hk
    · rw [qT (48 + 5 * k) (by omega) (by omega), q0]
      exact t4 k hk hk2
    · rw [qT (44 + 5 * j) (by omega) (by omega), qT (44 + 5 * k) (by omega) (by omega)]
      exact t5 j k hj hk
theorem pay_RB {e n t i : Nat} {R : Nat → Int32} {y : Int32} (h : RB e (60 * e) n t 0 0 R) (he : e < 600) (hi : i < n) (h1 : 1 ≤ y.toInt) (h2 : y.toInt ≤ 999) (h3 : (R (13 + 4 * i)).toInt + y.toInt ≤ 9999) : RB (e + 1) (60 * (e + 1)) n t 0 0 (payR R i y) := by
  have hA := h.1
  have hS := h.2.2
  have hn : n ≤ 8 := hA.1
  have b := bA_at hA hi
  unfold bS at hS
  have v1 : (R (13 + 4 * i) + y).toInt = (R (13 + 4 * i)).toInt + y.toInt := i32_add (by omega) (by omega)
  have v2 : (R 5 + y).toInt = (R 5).toInt + y.toInt := i32_add (by omega) (by omega)
  have e5 : ur R (13 + 4 * i) (R (13 + 4 * i) + y) 5 = R 5 := ur_ne _ _ (by omega)
  have qn : ∀ j, j < 94 → j ≠ 13 + 4 * i → j ≠ 5 → j ≠ 11 → payR R i y j = R j := by
    intro j a1 a2 a3 a4
    simp only [payR, jw, ur]
    grind
  have qb : payR R i y (13 + 4 * i) = R (13 + 4 * i) + y := by
    simp only [payR, jw, ur]
    grind
  have q5 : payR R i y 5 = R 5 + y := by
    simp only [payR, jw, ur]
    grind
  refine RB_acc h hi (Nat.le_refl 0) (qn 0 (by omega) (by omega) (by omega) (by omega)) (qn 1 (by omega) (by omega) (by omega) (by omega)) (qn 2 (by omega) (by omega) (by omega) (by omega)) (qn 3 (by omega) (by omega) (by omega) (by omega)) (fun j a1 a2 => qn j a2 (by omega) (by omega) (by omega)) (fun j a1 a2 a3 a4 a5 => qn j (by omega) a3 (by omega) (by omega)) ?_ ?_
  · rw [qb, qn (14 + 4 * i) (by omega) (by omega) (by omega) (by omega), qn (15 + 4 * i) (by omega) (by omega) (by omega) (by omega), v1]
    simp only [Nat.not_lt_zero, if_false] at b ⊢
    refine ⟨b.2.2.1, b.2.2.2.1, b.2.2.2.2.1, b.2.2.2.2.2.1, by omega, by omega⟩
  · unfold bS
    rw [qn 0 (by omega) (by omega) (by omega) (by omega), qn 2 (by omega) (by omega) (by omega) (by omega), q5, qn 6 (by omega) (by omega) (by omega) (by omega), qn 7 (by omega) (by omega) (by omega) (by omega), qn 8 (by omega) (by omega) (by omega) (by omega), qn 9 (by omega) (by omega) (by omega) (by omega), v2]
    omega
theorem pay_m {M : StM} {R : Nat → Int32} {n : Nat} {x y : Int32} (h1 : R 1 = Int32.ofNat n) (hn : n ≤ 8) : ok_X7_pays (rs M R) x y ∧ (¬ acc n x → f_X7_pays (rs M R) x y = (0, rs (smi M 15 1) R)) ∧ (acc n x → f_X7_isIn y 1 999 = 0 → f_X7_pays (rs M R) x y = (0, rs (smi M 15 2) R)) ∧ ∀ i, i < n → x = Int32.ofNat i → f_X7_isIn y 1 999 = 1 → (9999 - y < R (13 + 4 * i) → f_X7_pays (rs M R) x y = (0, rs (smi M 15 3) R)) ∧ (¬ 9999 - y < R (13 + 4 * i) → f_X7_pays (rs M R) x y = (payR R i y (13 + 4 * i), rs (smi M 15 0) (payR R i y))) := by
  have okJ : ∀ s0 s1 s2, (s2 = 1 → acc n x) → (s0 = 0 ∨ s0 = 1) → (s1 = 0 ∨ s1 = 1) → (s2 = 0 ∨ s2 = 1) → ok_X7_pays_J35 (rs M R) x y s0 s1 s2 := by
    intro s0 s1 s2 hx a0 a1 a2
    rintro _ rfl
    rcases a2 with rfl | rfl
    · simp only [holds_1, true_implies, not_true_eq_false, false_implies, and_self]
    · rcases a1 with rfl | rfl
      · simp only [holds_2, true_implies, not_true_eq_false, false_implies, and_self]
      · rcases a0 with rfl | rfl
        · simp only [holds_3, true_implies, not_true_eq_false, false_implies, and_self]
        · obtain ⟨i, hi, rfl⟩ := acc_o (hx rfl)
          rw [holds_0]
          refine ⟨fun _ => trivial, fun _ => ⟨?_, ?_⟩⟩
          · exact (chg_R (R := R) (M := smi M 15 0) (by omega)).2
          · rintro _ rfl
            rintro _ rfl
            have e1 := (chg_R (R := R) (M := smi M 15 0) (i := i) (d := y) (by omega)).1
            simp only [smi_rs, e1, sma_rs]
            refine ⟨(wri_R _ _ _ _ _).2, ?_⟩
            rintro _ rfl
            rw [(wri_R _ _ _ _ _).1]
            refine ok_of1 ?_ hn
            simp only [jw, ur, ixl]
            grind
  refine ⟨?_, ?_, ?_, ?_⟩
  · refine ⟨okAmt _, ?_⟩
    rintro _ rfl
    refine ⟨okisAcc _ _, ?_⟩
    rintro _ rfl
    have hx1 : f_X7_isAccount (rs M R) x = 1 → acc n x := by
      intro e
      by_cases hx : acc n x
      · exact hx
      · rw [isAcc_0 h1 hn hx] at e
        exact absurd e (by decide)
    have hx2 : f_X7_isAccount (rs M R) x = 0 ∨ f_X7_isAccount (rs M R) x = 1 := isIn01 _ _ _
    refine ⟨fun _ => okJ _ _ _ hx1 (Or.inl rfl) (isIn01 _ _ _) hx2, fun _ => ⟨ok_of1 h1 hn, ?_⟩⟩
    rintro _ rfl
    exact ⟨fun _ => okJ _ _ _ hx1 (Or.inl rfl) (isIn01 _ _ _) hx2, fun _ => okJ _ _ _ hx1 (Or.inr rfl) (isIn01 _ _ _) hx2⟩
  · intro hx
    simp only [f_X7_pays, f_X7_pays_J34, f_X7_pays_J35, nm_eq, isAcc_0 h1 hn hx, holds_1, if_true, smi_rs, ite_self]
  · intro hx hy
    simp only [f_X7_pays, f_X7_pays_J34, f_X7_pays_J35, nm_eq, isAcc_1 h1 hn hx, isAmt, hy, holds_2, if_true, smi_rs]
  · intro i hi hxi hy
    subst hxi
    have hx : acc n (Int32.ofNat i) := o_acc hi hn
    refine ⟨fun h => ?_, fun h => ?_⟩
    · simp only [f_X7_pays, f_X7_pays_J34, f_X7_pays_J35, nm_eq, isAcc_1 h1 hn hx, isAmt, hy, i10, if_false, of_1 h1 hn hi, if_pos h, holds_3, if_true, smi_rs]
    · have e1 : payR R i y 1 = Int32.ofNat n := by
        rw [← h1]
        simp only [payR, jw, ur]
        grind
      simp only [f_X7_pays, f_X7_pays_J34, f_X7_pays_J35, nm_eq, isAcc_1 h1 hn hx, isAmt, hy, i10, if_false, of_1 h1 hn hi, if_neg h, holds_0, smi_rs, (chg_R (R := R) (M := smi M 15 0) (i := i) (d := y) (by omega)).1, ixl, sma_rs, ma_rs0, (wri_R _ _ _ _ _).1]
      exact congrArg (fun v => (v, rs (smi M 15 0) (payR R i y))) (of_1 (M := smi M 15 0) e1 hn hi)
theorem pay_d {e n t p i : Nat} {B : StB} {R : Nat → Int32} {y : Int32} (hT : Ti 0 n 0 0 t B p R) (hR : RB e (60 * e) n t 0 0 R) (hi : i < n) (y1 : 1 ≤ y.toInt) (y2 : y.toInt ≤ 999) : ok_X3_payIn p B (Int32.ofNat i) y ∧ Fr p B (f_X3_payIn p B (Int32.ofNat i) y).2 ∧ Ti 0 n 0 0 t (f_X3_payIn p B (Int32.ofNat i) y).2 p (payR R i y) ∧ (f_X3_payIn p B (Int32.ofNat i) y).1 = payR R i y (13 + 4 * i) := by
  have hn := (Ti_n hT).2.2
  have hS := hR.2.2
  unfold bS at hS
  have e5 : ur R (13 + 4 * i) (R (13 + 4 * i) + y) 5 = R 5 := ur_ne _ _ (by omega)
  have g1 : 1 ≤ y := i32_le.mpr (by rw [lit.2.1]; exact y1)
  have h1 := Ti_bal y hT hi
  have h2 := Ti_dep y h1 (by rw [e5]; omega) (by rw [e5]; omega)
  have h3 := Ti_jw (k := 100) (a := y) (u := Int32.ofNat i) h2 (Or.inl rfl) g1
  have hx : ix (Int32.ofNat i) = i := ix_o (by omega)
  have hv : vp_in (Int32.ofNat i) 8 := in_o (by omega) (by omega)
  refine ⟨?_, ?_, ?_, ?_⟩
  · refine ⟨hv, hv, ?_⟩
    rintro _ rfl
    rintro _ rfl
    rw [hx]
    refine ⟨h3.2.1, ?_⟩
    rintro _ rfl
    exact hv
  · simp only [f_X3_payIn, nm_eq, hx]
    exact h3.2.2 B (Fr_l0 (Fr_a (Fr_r p B) 3 _ _ (by decide)) _ _)
  · simp only [f_X3_payIn, nm_eq, hx]
    exact h3.1
  · simp only [f_X3_payIn, nm_eq, hx]
    exact Ti_b h3.1 hi
theorem CS_pay {e n t p : Nat} {B : StB} {R : Nat → Int32} (M : StM) (x y : Int32) (hT : Ti 0 n 0 0 t B p R) (hR : RB e (60 * e) n t 0 0 R) (he : e < 600) : CS e n t p B R M (f_X3_payInFault p B x y) (ok_X3_payInFault p B x y) (fun C => f_X3_payIn p C x y) (fun C => ok_X3_payIn p C x y) (f_X7_pays (rs M R) x y) (ok_X7_pays (rs M R) x y) [1, 2, 4] := by
  obtain ⟨b1, b2, b3⟩ := Ti_n hT
  obtain ⟨okm, m1, m2, m3⟩ := pay_m (M := M) (x := x) (y := y) b2 b3
  have l := lit
  by_cases hx : acc n x
  · obtain ⟨i, hi, rfl⟩ := acc_o hx
    have hv : vp_in (Int32.ofNat i) 8 := in_o (by omega) (by omega)
    have hxx : ix (Int32.ofNat i) = i := ix_o (by omega)
    have bb := bA_at hR.1 hi
    have hS := hR.2.2
    unfold bS at hS
    rcases isIn_c y 1 999 with ⟨hy, y1, y2⟩ | ⟨hy, _⟩
    · have a0 := argf_0 (p := p) (B := B) (lo := 1) (hi := 999) b1 (by omega) hx hy
      obtain ⟨m3, m4⟩ := m3 i hi rfl hy
      have v1 : (R (13 + 4 * i) + y).toInt = (R (13 + 4 * i)).toInt + y.toInt := i32_add (by omega) (by simp only [Nat.not_lt_zero, if_false] at bb; omega)
      have v2 : (9999 - y).toInt = 9999 - y.toInt := by
        rw [i32_sub (by omega) (by omega)]
        omega
      refine ⟨?_, okm, ?_⟩
      · rintro _ rfl
        exact ⟨fun _ => hv, fun _ => trivial⟩
      · by_cases hb : R (13 + 4 * i) + y ≤ 9999
        · right
          rw [i32_le] at hb
          have hb2 : ¬ 9999 - y < R (13 + 4 * i) := by
            rw [i32_lt]
            omega
          refine ⟨?_, n, t, payR R i y, mi M 10, ?_, pay_RB hR he hi (by omega) (by omega) (by omega), ?_⟩
          · simp only [f_X3_payInFault, nm_eq, a0, if_true, hxx, Ti_b hT hi]
            rw [if_pos (i32_le.mpr hb)]
          · rw [m4 hb2, ← smi10]
          · intro C hC
            obtain ⟨d1, d2, d3, d4⟩ := pay_d hC hR hi (y := y) (by omega) (by omega)
            exact ⟨d1, d2, d3, by rw [m4 hb2]; exact d4⟩
        · left
          refine ⟨2, ?_, ?_⟩
          · simp only [f_X3_payInFault, nm_eq, a0, if_true, hxx, Ti_b hT hi, if_neg hb]
            rfl
          · rw [i32_le] at hb
            rw [m3 (by rw [i32_lt]; omega)]
            rfl
    · have a0 := argf_2 (p := p) (B := B) (lo := 1) (hi := 999) b1 (by omega) hx hy
      refine ⟨?_, okm, Or.inl ⟨1, ?_, ?_⟩⟩
      · rintro _ rfl
        exact ⟨fun _ => hv, fun _ => trivial⟩
      · simp only [f_X3_payInFault, nm_eq, a0]
        rw [if_neg (by decide)]
        rfl
      · rw [m2 hx hy]
        rfl
  · have a0 := argf_1 (p := p) (B := B) (y := y) (lo := 1) (hi := 999) b1 (by omega) hx
    refine ⟨?_, okm, Or.inl ⟨0, ?_, ?_⟩⟩
    · rintro _ rfl
      rw [a0]
      exact ⟨fun h => absurd h (by decide), fun _ => trivial⟩
    · simp only [f_X3_payInFault, nm_eq, a0]
      rw [if_neg (by decide)]
      rfl
    · rw [m1 hx]
      rfl
