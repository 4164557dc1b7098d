/-! the pure part: days -/
theorem L_gain {e D n p f s kp c t m : Nat} : ∀ (g n1 n2 i : Nat) (B : StB) (R : Nat → Int32) (M : StM) (z : Int32), i + g = n → g < n1 → g < n2 → Ti f n s kp c B p R → RB e D n t m i R → ∃ R', ok_X3_payInterest_L2 n1 p B (Int32.ofNat i) ∧ ok_X7_closesDay_L61 n2 (rs M R) z (Int32.ofNat i) ∧ f_X7_closesDay_L61 n2 (rs M R) z (Int32.ofNat i) = rs M R' ∧ Ti f n s kp c (f_X3_payInterest_L2 n1 p B (Int32.ofNat i)) p R' ∧ RB e D n t m n R' ∧ Fr p B (f_X3_payInterest_L2 n1 p B (Int32.ofNat i)) ∧ (∀ q, 44 ≤ q → q < 94 → R' q = R q) ∧ R' 0 = R 0 := by
  intro g
  induction g with
  | zero =>
    intro n1 n2 i B R M z hi h1 h2 hT hR
    obtain ⟨n1, rfl⟩ : ∃ q, n1 = q + 1 := ⟨n1 - 1, by omega⟩
    obtain ⟨n2, rfl⟩ : ∃ q, n2 = q + 1 := ⟨n2 - 1, by omega⟩
    have hni : n = i := by omega
    subst hni
    obtain ⟨a1, a2, a3⟩ := Ti_n hT
    have w1 : Int32.ofNat n ≤ Int32.ofNat n := (le_ofN (by omega) (by omega)).mpr (Nat.le_refl n)
    have ef : f_X3_payInterest_L2 (n1 + 1) p B (Int32.ofNat n) = B := by
      simp only [f_X3_payInterest_L2, a1, if_pos w1]
    have em : f_X7_closesDay_L61 (n2 + 1) (rs M R) z (Int32.ofNat n) = rs M R := by
      simp only [f_X7_closesDay_L61, ma_rs0, ixl, a2, if_pos w1]
    rw [ef, em]
    refine ⟨R, ?_, ?_, rfl, hT, hR, Fr_r p B, fun _ _ _ => rfl, rfl⟩
    · simp only [ok_X3_payInterest_L2, a1]
      exact ⟨fun _ => trivial, fun h9 => absurd w1 h9⟩
    · simp only [ok_X7_closesDay_L61, ma_rs0, ixl, a2]
      exact ⟨fun _ => trivial, fun h9 => absurd w1 h9⟩
  | succ g ih =>
    intro n1 n2 i B R M z hi h1 h2 hT hR
    obtain ⟨n1, rfl⟩ : ∃ q, n1 = q + 1 := ⟨n1 - 1, by omega⟩
    obtain ⟨n2, rfl⟩ : ∃ q, n2 = q + 1 := ⟨n2 - 1, by omega⟩
    obtain ⟨a1, a2, a3⟩ := Ti_n hT
    have w1 : ¬ Int32.ofNat n ≤ Int32.ofNat i := by
      rw [le_ofN (by omega) (by omega)]
      omega
    have hx : ix (Int32.ofNat i) = i := ix_o (by omega)
    have hv : vp_in (Int32.ofNat i) 8 := in_o (by omega) (by omega)
    obtain ⟨eE, oE⟩ := ern_C hT hR.1 (i := i) (by omega)
    obtain ⟨c1, c2, c3, c4, c5⟩ := gain_C hT hR (by omega)
    obtain ⟨gM, oM⟩ := gain_M (M := M) a2 a3 (i := i) (by omega)
    obtain ⟨l1, l2, l3⟩ := lo_gn R i (by omega)
    obtain ⟨R', r1, r2, r3, r4, r5, r6, r7, r8⟩ := ih n1 n2 (i + 1) (gnB p B i) (gnR R i) M z (by omega) (by omega) (by omega) c1 c3
    have ef : f_X3_payInterest_L2 (n1 + 1) p B (Int32.ofNat i) = f_X3_payInterest_L2 n1 p (gnB p B i) (Int32.ofNat (i + 1)) := by
      unfold gnB
      by_cases hp : 0 ≤ f_X0_interest (p + 1) B (Int32.ofNat i)
      · simp only [f_X3_payInterest_L2, a1, if_neg w1, nm_eq, if_pos hp, hx, oad1]
      · simp only [f_X3_payInterest_L2, a1, if_neg w1, nm_eq, if_neg hp, oad1]
    have em : f_X7_closesDay_L61 (n2 + 1) (rs M R) z (Int32.ofNat i) = f_X7_closesDay_L61 n2 (rs M (gnR R i)) z (Int32.ofNat (i + 1)) := by
      simp only [f_X7_closesDay_L61, ma_rs0, ixl, a2, if_neg w1, nm_eq, gM, oad1]
    rw [ef, em]
    refine ⟨R', ?_, ?_, r3, r4, r5, Fr_t c2 r6, fun q q1 q2 => (r7 q q1 q2).trans (l1 q q1 q2), r8.trans l2⟩
    · simp only [ok_X3_payInterest_L2, a1]
      refine ⟨fun _ => trivial, fun _ => ⟨oE, ?_⟩⟩
      rintro _ rfl
      rw [eE, hx]
      unfold gnB at r1
      rw [eE] at r1
      refine ⟨fun hp => ⟨hv, hv, ?_⟩, fun hp => ⟨c5 hp, ?_⟩⟩
      · rintro _ rfl
        rintro _ rfl
        rintro _ rfl
        refine ⟨c4 hp, ?_⟩
        rintro _ rfl
        rw [if_pos hp] at r1
        rw [oad1]
        exact r1
      · rintro _ rfl
        rw [if_neg hp] at r1
        rw [oad1]
        exact r1
    · simp only [ok_X7_closesDay_L61, ma_rs0, ixl, a2]
      refine ⟨fun _ => trivial, fun _ => ⟨oM, ?_⟩⟩
      rintro _ rfl
      rw [gM, oad1]
      exact r2
theorem L_forg {e D n p f s kp c t m a : Nat} : ∀ (g n1 n2 i : Nat) (B : StB) (R : Nat → Int32) (M : StM) (z : Int32), i + g = n → g < n1 → g < n2 → Ti f n s kp c B p R → RB e D n t m a R → ∃ R', ok_X0_forgetTouches_L2 n1 (p + 1) B (Int32.ofNat i) ∧ ok_X7_closesDay_L84 n2 (rs M R) z (Int32.ofNat i) ∧ f_X7_closesDay_L84 n2 (rs M R) z (Int32.ofNat i) = rs M R' ∧ Ti f n s kp c (f_X0_forgetTouches_L2 n1 (p + 1) B (Int32.ofNat i)) p R' ∧ RB e D n t m a R' ∧ Fr p B (f_X0_forgetTouches_L2 n1 (p + 1) B (Int32.ofNat i)) ∧ (∀ q, 44 ≤ q → q < 94 → R' q = R q) ∧ R' 0 = R 0 := by
  intro g
  induction g with
  | zero =>
    intro n1 n2 i B R M z hi h1 h2 hT hR
    obtain ⟨n1, rfl⟩ : ∃ q, n1 = q + 1 := ⟨n1 - 1, by omega⟩
    obtain ⟨n2, rfl⟩ : ∃ q, n2 = q + 1 := ⟨n2 - 1, by omega⟩
    have hni : n = i := by omega
    subst hni
    obtain ⟨a1, a2, a3⟩ := Ti_n hT
    have w1 : Int32.ofNat n ≤ Int32.ofNat n := (le_ofN (by omega) (by omega)).mpr (Nat.le_refl n)
    have ef : f_X0_forgetTouches_L2 (n1 + 1) (p + 1) B (Int32.ofNat n) = B := by
      simp only [f_X0_forgetTouches_L2, a1, if_pos w1]
    have em : f_X7_closesDay_L84 (n2 + 1) (rs M R) z (Int32.ofNat n) = rs M R := by
      simp only [f_X7_closesDay_L84, ma_rs0, ixl, a2, if_pos w1]
    rw [ef, em]
    refine ⟨R, ?_, ?_, rfl, hT, hR, Fr_r p B, fun _ _ _ => rfl, rfl⟩
    · simp only [ok_X0_forgetTouches_L2, a1]
      exact ⟨fun _ => trivial, fun h9 => absurd w1 h9⟩
    · simp only [ok_X7_closesDay_L84, ma_rs0, ixl, a2]
      exact ⟨fun _ => trivial, fun h9 => absurd w1 h9⟩
  | succ g ih =>
    intro n1 n2 i B R M z hi h1 h2 hT hR
    obtain ⟨n1, rfl⟩ : ∃ q, n1 = q + 1 := ⟨n1 - 1, by omega⟩
    obtain ⟨n2, rfl⟩ : ∃ q, n2 = q + 1 := ⟨n2 - 1, by omega⟩
    obtain ⟨a1, a2, a3⟩ := Ti_n hT
    have w1 : ¬ Int32.ofNat n ≤ Int32.ofNat i := by
      rw [le_ofN (by omega) (by omega)]
      omega
    have hx : ix (Int32.ofNat i) = i := ix_o (by omega)
    have hv : vp_in (Int32.ofNat i) 8 := in_o (by omega) (by omega)
    have e15 : 12 + 4 * i + 3 = 15 + 4 * i := by omega
    have x15 : ix (Int32.ofNat (15 + 4 * i)) = 15 + 4 * i := ix_o (by omega)
    have v15 : vp_in (Int32.ofNat (15 + 4 * i)) 124 := in_o (by omega) (by omega)
    have p5 : p + 1 + 4 = p + 5 := by omega
    have c1 := Ti_tch (v := 0) hT (i := i) (by omega) (Or.inl rfl)
    have c2 : Fr p B (sba B (p + 5) i (vp_nar .boolean 0)) := Fr_a (Fr_r p B) 5 _ _ (by decide)
    have b := bA_at hR.1 (i := i) (by omega)
    have c3 : RB e D n t m a (ur R (15 + 4 * i) 0) := by
      refine RB_acc hR (i := i) (by omega) (Nat.le_refl a) (ur_ne _ _ (by omega)) (ur_ne _ _ (by omega)) (ur_ne _ _ (by omega)) (ur_ne _ _ (by omega)) (fun j b1 b2 => ur_ne _ _ (by omega)) (fun j b1 b2 b3 b4 b5 => ur_ne _ _ b5) ?_ ?_
      · rw [ur_eq, ur_ne (j := 14 + 4 * i) _ _ (by omega), ur_ne (j := 13 + 4 * i) _ _ (by omega)]
        exact ⟨Or.inl rfl, b.2.2.2⟩
      · have s1 := hR.2.2
        unfold bS at s1 ⊢
        rw [ur_ne (j := 0) _ _ (by omega), ur_ne (j := 2) _ _ (by omega), ur_ne (j := 5) _ _ (by omega), ur_ne (j := 6) _ _ (by omega), ur_ne (j := 7) _ _ (by omega), ur_ne (j := 8) _ _ (by omega), ur_ne (j := 9) _ _ (by omega)]
        exact s1
    obtain ⟨R', r1, r2, r3, r4, r5, r6, r7, r8⟩ := ih n1 n2 (i + 1) (sba B (p + 5) i (vp_nar .boolean 0)) (ur R (15 + 4 * i) 0) M z (by omega) (by omega) (by omega) c1 c3
    have ef : f_X0_forgetTouches_L2 (n1 + 1) (p + 1) B (Int32.ofNat i) = f_X0_forgetTouches_L2 n1 (p + 1) (sba B (p + 5) i (vp_nar .boolean 0)) (Int32.ofNat (i + 1)) := by
      simp only [f_X0_forgetTouches_L2, a1, if_neg w1, nm_eq, hx, p5, oad1]
    have em : f_X7_closesDay_L84 (n2 + 1) (rs M R) z (Int32.ofNat i) = f_X7_closesDay_L84 n2 (rs M (ur R (15 + 4 * i) 0)) z (Int32.ofNat (i + 1)) := by
      simp only [f_X7_closesDay_L84, ma_rs0, ixl, a2, if_neg w1, nm_eq, f_X7_accountAt, oacc, oad3, e15, x15, sma_rs, oad1]
    rw [ef, em]
    refine ⟨R', ?_, ?_, r3, r4, r5, Fr_t c2 r6, fun q q1 q2 => (r7 q q1 q2).trans (ur_ne _ _ (by omega)), r8.trans (ur_ne _ _ (by omega))⟩
    · simp only [ok_X0_forgetTouches_L2, a1]
      refine ⟨fun _ => trivial, fun _ => ⟨hv, ?_⟩⟩
      rintro _ rfl
      rw [hx, p5, oad1]
      exact r1
    · simp only [ok_X7_closesDay_L84, ma_rs0, ixl, a2]
      refine ⟨fun _ => trivial, fun _ => ?_⟩
      rintro _ rfl
      simp only [f_X7_accountAt, oacc, oad3, e15]
      refine ⟨v15, ?_⟩
      rintro _ rfl
      rw [x15, sma_rs, oad1]
      exact r2
theorem RB_day {e D n t : Nat} {R : Nat → Int32} (h : RB e D n t t n R) (hD : D + 1 ≤ 37000) : RB e (D + 1) n t 0 0 (ur R 0 (R 0 + 1)) := by
  obtain ⟨hA, ⟨t1, t2, t3, t4, t5⟩, hS⟩ := h
  have hn : n ≤ 8 := hA.1
  unfold bS at hS
  have l1 : (1 : Int32).toInt = 1 := by decide
  have v0 : (R 0 + 1).toInt = (R 0).toInt + 1 := by
    rw [i32_add (by omega) (by omega), l1]
  refine ⟨⟨hn, by rw [ur_ne _ _ (by omega)]; exact hA.2.1, fun i hi => ?_⟩, ⟨t1, by rw [ur_ne _ _ (by omega)]; exact t2, fun k hk => ?_, fun k hk => by omega, fun j k hj hk => ?_⟩, ?_⟩
  · have b := bA_at hA hi
    rw [ur_ne (j := 12 + 4 * i) _ _ (by omega), ur_ne (j := 13 + 4 * i) _ _ (by omega), ur_ne (j := 14 + 4 * i) _ _ (by omega), ur_ne (j := 15 + 4 * i) _ _ (by omega), ur_ne (j := 2) _ _ (by omega), ur_eq, v0]
    have b8 := b.2.2.2.2.2.2.2
    rw [if_pos hi] at b8
    rw [if_neg (by omega)]
    exact ⟨b.1, b.2.1, b.2.2.1, b.2.2.2.1, b.2.2.2.2.1, b.2.2.2.2.2.1, b.2.2.2.2.2.2.1, by omega⟩
  · obtain ⟨k1, k2, k3, k4, k5, k6, k7, k8⟩ := t3 k hk
    have k9 := t4 k hk hk
    rw [ur_ne (j := 44 + 5 * k) _ _ (by omega), ur_ne (j := 45 + 5 * k) _ _ (by omega), ur_ne (j := 46 + 5 * k) _ _ (by omega), ur_ne (j := 47 + 5 * k) _ _ (by omega), ur_ne (j := 48 + 5 * k) _ _ (by omega), ur_ne (j := 2) _ _ (by omega), ur_eq, v0]
    exact ⟨k1, k2, k3, k4, by omega, by omega, k7, k8⟩
  · rw [ur_ne (j := 44 + 5 * j) _ _ (by omega), ur_ne (j := 44 + 5 * k) _ _ (by omega)]
    exact t5 j k hj hk
  · unfold bS
    rw [ur_eq, v0, ur_ne (j := 2) _ _ (by omega), ur_ne (j := 5) _ _ (by omega), ur_ne (j := 6) _ _ (by omega), ur_ne (j := 7) _ _ (by omega), ur_ne (j := 8) _ _ (by omega), ur_ne (j := 9) _ _ (by omega)]
    omega
/-- the class's day -/
def dayB (p : Nat) (B : StB) : StB := sbi (f_X0_forgetTouches (p + 1) (f_X3_payInterest p (f_X3_settleDue p B).2)) p 3 (bi (f_X0_forgetTouches (p + 1) (f_X3_payInterest p (f_X3_settleDue p B).2)) p 3 + 1)
def dayOk (p : Nat) (B : StB) : Prop := ok_X3_settleDue p B ∧ ok_X3_payInterest p (f_X3_settleDue p B).2 ∧ ok_X0_forgetTouches (p + 1) (f_X3_payInterest p (f_X3_settleDue p B).2)
theorem day_sim {e D n t p : Nat} {B : StB} {R : Nat → Int32} (M : StM) (hT : Ti 0 n 0 0 t B p R) (hR : RB e D n t 0 0 R) (hD : D + 1 ≤ 37000) : ∃ t' R' v, dayOk p B ∧ ok_X7_closesDay (rs M R) ∧ f_X7_closesDay (rs M R) = ((f_X3_settleDue p B).1, rs (smi M 10 v) R') ∧ Ti 0 n 0 0 t' (dayB p B) p R' ∧ RB e (D + 1) n t' 0 0 R' ∧ Fr p B (dayB p B) ∧ R' 0 = R 0 + 1 ∧ stays t t' R R' ∧ (mi M 10 = 0 → (∀ k, k < t → R (48 + 5 * k) = R 0 → R (44 + 5 * k) ≠ mi M 9) → v = 0) ∧ ∃ R1, (f_X7_closesDay_L4 fu (rs M R) 0 0).2 = rs (smi M 10 v) R1 ∧ R1 3 = Int32.ofNat t' ∧ (∀ q, 44 ≤ q → q < 94 → R' q = R1 q) := by
  have hn : n ≤ 8 := hR.1.1
  have ht : t ≤ 10 := hR.2.1.1
  have hfu : 12 < fu := by unfold fu; omega
  obtain ⟨kp, R1, v, r1, r2, r3, r4, r5, r6, r7, r8, r9, r10⟩ := L_set (e := e) (D := D) (n := n) (p := p) t fu fu 0 0 t B R M 0 (by omega) (by omega) (by omega) hT (by simpa only [Nat.add_zero] using hR)
  have z0 : Int32.ofNat 0 = 0 := rfl
  rw [z0] at r1 r2 r3 r4 r5 r7
  obtain ⟨hT1, hF1⟩ := Ti_end r5
  rw [← r3] at hT1 hF1
  have eS : f_X3_settleDue p B = ((f_X3_settleDue_L6 fu p B 0 0 0).1, sbi (f_X3_settleDue_L6 fu p B 0 0 0).2.2 (p + 6) 0 (f_X3_settleDue_L6 fu p B 0 0 0).2.1) := by
    unfold f_X3_settleDue
    simp only [nm_eq]
  have hR1 : RB e D n kp kp 0 R1 := r6
  obtain ⟨R2, g1, g2, g3, g4, g5, g6, g7, g8⟩ := L_gain n fu fu 0 (sbi (f_X3_settleDue_L6 fu p B 0 0 0).2.2 (p + 6) 0 (f_X3_settleDue_L6 fu p B 0 0 0).2.1) R1 (smi M 10 v) (f_X3_settleDue_L6 fu p B 0 0 0).1 (by omega) (by omega) (by omega) hT1 hR1
  rw [z0] at g1 g2 g3 g4 g6
  obtain ⟨R3, q1, q2, q3, q4, q5, q6, q7, q8⟩ := L_forg n fu fu 0 (f_X3_payInterest_L2 fu p (sbi (f_X3_settleDue_L6 fu p B 0 0 0).2.2 (p + 6) 0 (f_X3_settleDue_L6 fu p B 0 0 0).2.1) 0) R2 (smi M 10 v) (f_X3_settleDue_L6 fu p B 0 0 0).1 (by omega) (by omega) (by omega) g4 g5
  rw [z0] at q1 q2 q3 q4 q6
  clear hfu
  have eB : f_X0_forgetTouches (p + 1) (f_X3_payInterest p (f_X3_settleDue p B).2) = f_X0_forgetTouches_L2 fu (p + 1) (f_X3_payInterest_L2 fu p (sbi (f_X3_settleDue_L6 fu p B 0 0 0).2.2 (p + 6) 0 (f_X3_settleDue_L6 fu p B 0 0 0).2.1) 0) 0 := by
    rw [eS]
    unfold f_X0_forgetTouches f_X3_payInterest
    simp only [nm_eq]
  refine ⟨kp, ur R3 0 (R3 0 + 1), v, ?_, ?_, ?_, ?_, RB_day q5 hD, ?_, ?_, ?_, ?_, R1, ?_, r6.2.1.2.1, fun q h1 h2 => ?_⟩
  · refine ⟨r1, ?_, ?_⟩
    · rw [eS]
      exact g1
    · rw [eS]
      unfold f_X3_payInterest
      rw [nm_eq]
      exact q1
  · refine ⟨r2, ?_⟩
    rintro _ rfl
    rw [r4]
    refine ⟨g2, ?_⟩
    rintro _ rfl
    rw [g3]
    exact q2
  · unfold f_X7_closesDay
    rw [nm_eq, r4, nm_eq]
    simp only [g3, nm_eq, q3, ixl, ma_rs0, sma_rs, eS]
  · unfold dayB
    rw [eB]
    exact Ti_day 1 q4
  · unfold dayB
    rw [eB]
    exact Fr_i0 (Fr_t (Fr_t (Fr_t r7 hF1) g6) q6) _ _
  · rw [ur_eq, q8, g8, r8]
  · intro x w hw hh
    obtain ⟨k, k1, k2, k3⟩ := r9 x w hw (by simpa only [Nat.add_zero] using hh)
    have hk10 : kp ≤ 10 := r6.2.1.1
    refine ⟨k, k1, ?_, ?_⟩
    · rw [ur_ne _ _ (by omega), q7 _ (by omega) (by omega), g7 _ (by omega) (by omega), k2]
    · rw [ur_ne _ _ (by omega), q7 _ (by omega) (by omega), g7 _ (by omega) (by omega), k3]
  · intro h9 h10
    exact r10 h9 (fun k _ k2 k3 => h10 k (by omega) k3)
  · rw [r4]
  · rw [ur_ne _ _ (by omega), q7 _ h1 h2, g7 _ h1 h2]
theorem L_pass {e n p : Nat} (d : Nat) (hd : d ≤ 1000) (x : Int32) : ∀ (g n1 n2 j D t : Nat) (B : StB) (R : Nat → Int32) (M : StM) (ex : Int32), j + g = d → g < n1 → g < n2 → D + g ≤ 37000 → Ti 0 n 0 0 t B p R → RB e D n t 0 0 R → ∃ t' R' v, ok_X3_passDays_L4 n1 p B (Int32.ofNat d) ex (Int32.ofNat j) ∧ ok_X7_waits_L20 n2 (rs M R) (Int32.ofNat d) ex (Int32.ofNat j) ∧ ok_X7_balanceAfter_L38 n2 (rs M R) x (Int32.ofNat d) (Int32.ofNat j) ∧ f_X7_waits_L20 n2 (rs M R) (Int32.ofNat d) ex (Int32.ofNat j) = ((f_X3_passDays_L4 n1 p B (Int32.ofNat d) ex (Int32.ofNat j)).1, rs (smi M 10 v) R') ∧ f_X7_balanceAfter_L38 n2 (rs M R) x (Int32.ofNat d) (Int32.ofNat j) = rs (smi M 10 v) R' ∧ Ti 0 n 0 0 t' (f_X3_passDays_L4 n1 p B (Int32.ofNat d) ex (Int32.ofNat j)).2 p R' ∧ RB e (D + g) n t' 0 0 R' ∧ Fr p B (f_X3_passDays_L4 n1 p B (Int32.ofNat d) ex (Int32.ofNat j)).2 := by
  intro g
  induction g with
  | zero =>
    intro n1 n2 j D t B R M ex hj h1 h2 hD hT hR
    obtain ⟨n1, rfl⟩ : ∃ q, n1 = q + 1 := ⟨n1 - 1, by omega⟩
    obtain ⟨n2, rfl⟩ : ∃ q, n2 = q + 1 := ⟨n2 - 1, by omega⟩
    have hdj : d = j := by omega
    subst hdj
    have w1 : Int32.ofNat d ≤ Int32.ofNat d := (le_ofN (by omega) (by omega)).mpr (Nat.le_refl d)
    refine ⟨t, R, mi M 10, ⟨fun _ => trivial, fun h9 => absurd w1 h9⟩, ⟨fun _ => trivial, fun h9 => absurd w1 h9⟩, ⟨fun _ => trivial, fun h9 => absurd w1 h9⟩, ?_, ?_, ?_, by simpa only [Nat.add_zero] using hR, ?_⟩
    · simp only [f_X7_waits_L20, f_X3_passDays_L4, if_pos w1, smi_self]
    · simp only [f_X7_balanceAfter_L38, if_pos w1, smi_self]
    · simp only [f_X3_passDays_L4, if_pos w1]
      exact hT
    · simp only [f_X3_passDays_L4, if_pos w1]
      exact Fr_r p B
  | succ g ih =>
    intro n1 n2 j D t B R M ex hj h1 h2 hD hT hR
    obtain ⟨n1, rfl⟩ : ∃ q, n1 = q + 1 := ⟨n1 - 1, by omega⟩
    obtain ⟨n2, rfl⟩ : ∃ q, n2 = q + 1 := ⟨n2 - 1, by omega⟩
    have w1 : ¬ Int32.ofNat d ≤ Int32.ofNat j := by
      rw [le_ofN (by omega) (by omega)]
      omega
    obtain ⟨t1, R1, v1, d1, d2, d3, d4, d5, d6, d7, d8, d9⟩ := day_sim M hT hR (by omega)
    obtain ⟨t', R', v, r1, r2, r3, r4, r5, r6, r7, r8⟩ := ih n1 n2 (j + 1) (D + 1) t1 (dayB p B) R1 (smi M 10 v1) (ex + (f_X3_settleDue p B).1) (by omega) (by omega) (by omega) (by omega) d4 d5
    have ef : f_X3_passDays_L4 (n1 + 1) p B (Int32.ofNat d) ex (Int32.ofNat j) = f_X3_passDays_L4 n1 p (dayB p B) (Int32.ofNat d) (ex + (f_X3_settleDue p B).1) (Int32.ofNat (j + 1)) := by
      simp only [f_X3_passDays_L4, if_neg w1, nm_eq, oad1]
      rfl
    refine ⟨t', R', v, ?_, ?_, ?_, ?_, ?_, ?_, ?_, ?_⟩
    · refine ⟨fun _ => trivial, fun _ => ⟨d1.1, ?_⟩⟩
      rintro _ rfl
      rintro _ rfl
      refine ⟨d1.2.1, ?_⟩
      rintro _ rfl
      refine ⟨d1.2.2, ?_⟩
      rintro _ rfl
      rintro _ rfl
      rw [oad1]
      exact r1
    · refine ⟨fun _ => trivial, fun _ => ⟨d2, ?_⟩⟩
      rintro _ rfl
      rintro _ rfl
      rw [d3, oad1]
      exact r2
    · refine ⟨fun _ => trivial, fun _ => ⟨d2, ?_⟩⟩
      rintro _ rfl
      rw [d3, oad1]
      exact r3
    · rw [ef]
      simp only [f_X7_waits_L20, if_neg w1, nm_eq, d3, oad1]
      rw [r4, smi_smi]
    · simp only [f_X7_balanceAfter_L38, if_neg w1, nm_eq, d3, oad1]
      rw [r5, smi_smi]
    · rw [ef]
      exact r6
    · rw [show D + (g + 1) = D + 1 + g by omega]
      exact r7
    · rw [ef]
      exact Fr_t d6 r8
