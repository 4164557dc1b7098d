/-! the pure part: the loops of a day -/
theorem lo_mv (R : Nat → Int32) (i j : Nat) (y : Int32) (hi : i < 8) (hj : j < 8) : (∀ q, 44 ≤ q → q < 94 → mvR R i j y q = R q) ∧ mvR R i j y 0 = R 0 ∧ mvR R i j y 3 = R 3 := by
  refine ⟨fun q a1 a2 => ?_, ?_, ?_⟩
  · simp only [mvR, jw]
    rw [if_neg (by omega), if_neg (by omega), if_neg (by omega), if_neg (by omega), if_neg (by omega), ur_ne _ _ (by omega), ur_ne _ _ (by omega), ur_ne _ _ (by omega), ur_ne _ _ (by omega)]
  · simp only [mvR, jw]
    rw [if_neg (by omega), if_neg (by omega), if_neg (by omega), if_neg (by omega), if_neg (by omega), ur_ne _ _ (by omega), ur_ne _ _ (by omega), ur_ne _ _ (by omega), ur_ne _ _ (by omega)]
  · simp only [mvR, jw]
    rw [if_neg (by omega), if_neg (by omega), if_neg (by omega), if_neg (by omega), if_neg (by omega), ur_ne _ _ (by omega), ur_ne _ _ (by omega), ur_ne _ _ (by omega), ur_ne _ _ (by omega)]
theorem lo_gvN (R : Nat → Int32) (i : Nat) (l d : Int32) (hi : i < 8) : (∀ q, 44 ≤ q → q < 94 → gvN R i l d q = R q) ∧ gvN R i l d 0 = R 0 ∧ gvN R i l d 3 = R 3 := by
  unfold gvN
  split
  · exact ⟨fun _ _ _ => rfl, rfl, rfl⟩
  · refine ⟨fun q a1 a2 => ?_, ?_, ?_⟩
    · simp only [gvR, jw]
      rw [if_neg (by omega), if_neg (by omega), if_neg (by omega), if_neg (by omega), if_neg (by omega), ur_ne _ _ (by omega), ur_ne _ _ (by omega), ur_ne _ _ (by omega)]
    · simp only [gvR, jw]
      rw [if_neg (by omega), if_neg (by omega), if_neg (by omega), if_neg (by omega), if_neg (by omega), ur_ne _ _ (by omega), ur_ne _ _ (by omega), ur_ne _ _ (by omega)]
    · simp only [gvR, jw]
      rw [if_neg (by omega), if_neg (by omega), if_neg (by omega), if_neg (by omega), if_neg (by omega), ur_ne _ _ (by omega), ur_ne _ _ (by omega), ur_ne _ _ (by omega)]
theorem lo_bn (R : Nat → Int32) (i : Nat) (hi : i < 8) : (∀ q, 44 ≤ q → q < 94 → bnR R i q = R q) ∧ bnR R i 0 = R 0 ∧ bnR R i 3 = R 3 := by
  unfold bnR
  obtain ⟨g1, g2, g3⟩ := lo_gvN (ur R 10 (R 10 + 1)) i 102 (mn 3 (R (13 + 4 * i) + R (14 + 4 * i))) hi
  refine ⟨fun q a1 a2 => ?_, ?_, ?_⟩
  · rw [g1 q a1 a2, ur_ne _ _ (by omega)]
  · rw [g2, ur_ne _ _ (by omega)]
  · rw [g3, ur_ne _ _ (by omega)]
theorem lo_in (R : Nat → Int32) (i : Nat) (d : Int32) (hi : i < 8) : (∀ q, 44 ≤ q → q < 94 → inR R i d q = R q) ∧ inR R i d 0 = R 0 ∧ inR R i d 3 = R 3 := by
  refine ⟨fun q a1 a2 => ?_, ?_, ?_⟩
  · simp only [inR, jw]
    rw [if_neg (by omega), if_neg (by omega), if_neg (by omega), if_neg (by omega), if_neg (by omega), ur_ne _ _ (by omega), ur_ne _ _ (by omega), ur_ne _ _ (by omega)]
  · simp only [inR, jw]
    rw [if_neg (by omega), if_neg (by omega), if_neg (by omega), if_neg (by omega), if_neg (by omega), ur_ne _ _ (by omega), ur_ne _ _ (by omega), ur_ne _ _ (by omega)]
  · simp only [inR, jw]
    rw [if_neg (by omega), if_neg (by omega), if_neg (by omega), if_neg (by omega), if_neg (by omega), ur_ne _ _ (by omega), ur_ne _ _ (by omega), ur_ne _ _ (by omega)]
theorem lo_gn (R : Nat → Int32) (i : Nat) (hi : i < 8) : (∀ q, 44 ≤ q → q < 94 → gnR R i q = R q) ∧ gnR R i 0 = R 0 ∧ gnR R i 3 = R 3 := by
  unfold gnR
  split
  · exact lo_gvN R i _ _ hi
  · exact lo_in R i _ hi
/-- what stays in the list -/
def stays (t t' : Nat) (R R' : Nat → Int32) : Prop := ∀ x w : Int32, w ≠ R 0 → (∃ k, k < t ∧ R (44 + 5 * k) = x ∧ R (48 + 5 * k) = w) → ∃ k, k < t' ∧ R' (44 + 5 * k) = x ∧ R' (48 + 5 * k) = w
theorem stays_d {t k : Nat} {R X : Nat → Int32} (hk : k < t) (ht : t ≤ 10) (h : ∀ q, 44 ≤ q → q < 94 → X q = R q) (hd : R (48 + 5 * k) = R 0) : stays t (t - 1) R (dw X k) := by
  rintro x w hw ⟨q, hq, e1, e2⟩
  have hqk : q ≠ k := by
    rintro rfl
    exact hw (e2.symm.trans hd)
  by_cases hlt : q < k
  · refine ⟨q, by omega, ?_, ?_⟩
    · simp only [dw]
      rw [if_neg (by omega), if_neg (by omega), h _ (by omega) (by omega), e1]
    · simp only [dw]
      rw [if_neg (by omega), if_neg (by omega), h _ (by omega) (by omega), e2]
  · refine ⟨q - 1, by omega, ?_, ?_⟩
    · simp only [dw]
      rw [if_neg (by omega), if_pos (by omega), h _ (by omega) (by omega), ← e1]
      exact congrArg R (by omega)
    · simp only [dw]
      rw [if_neg (by omega), if_pos (by omega), h _ (by omega) (by omega), ← e2]
      exact congrArg R (by omega)
theorem RB_m {e D n t m m' a : Nat} {R : Nat → Int32} (h : RB e D n t m a R) (hm : ∀ k, m ≤ k → k < m' → k < t → (R 0).toInt < (R (48 + 5 * k)).toInt) : RB e D n t m' a R := by
  obtain ⟨hA, ⟨t1, t2, t3, t4, t5⟩, hS⟩ := h
  refine ⟨hA, ⟨t1, t2, t3, fun k hk hk2 => ?_, t5⟩, hS⟩
  by_cases h1 : k < m
  · exact t4 k h1 hk2
  · exact hm k (by omega) hk hk2
theorem L_set {e D n p : Nat} : ∀ (g n1 n2 s kp c : Nat) (B : StB) (R : Nat → Int32) (M : StM) (ex : Int32), s + g = c → g < n1 → g < n2 → Ti kp n s kp c B p R → RB e D n (g + kp) kp 0 R → ∃ kp' R' v, ok_X3_settleDue_L6 n1 p B ex (Int32.ofNat kp) (Int32.ofNat s) ∧ ok_X7_closesDay_L4 n2 (rs M R) ex (Int32.ofNat kp) ∧ (f_X3_settleDue_L6 n1 p B ex (Int32.ofNat kp) (Int32.ofNat s)).2.1 = Int32.ofNat kp' ∧ f_X7_closesDay_L4 n2 (rs M R) ex (Int32.ofNat kp) = ((f_X3_settleDue_L6 n1 p B ex (Int32.ofNat kp) (Int32.ofNat s)).1, rs (smi M 10 v) R') ∧ Ti kp' n c kp' c (f_X3_settleDue_L6 n1 p B ex (Int32.ofNat kp) (Int32.ofNat s)).2.2 p R' ∧ RB e D n kp' kp' 0 R' ∧ Fr p B (f_X3_settleDue_L6 n1 p B ex (Int32.ofNat kp) (Int32.ofNat s)).2.2 ∧ R' 0 = R 0 ∧ stays (g + kp) kp' R R' ∧ (mi M 10 = 0 → (∀ k, kp ≤ k → k < g + kp → R (48 + 5 * k) = R 0 → R (44 + 5 * k) ≠ mi M 9) → v = 0) := by
  intro g
  induction g with
  | zero =>
    intro n1 n2 s kp c B R M ex hs h1 h2 hT hR
    obtain ⟨n1, rfl⟩ : ∃ q, n1 = q + 1 := ⟨n1 - 1, by omega⟩
    obtain ⟨n2, rfl⟩ : ∃ q, n2 = q + 1 := ⟨n2 - 1, by omega⟩
    have hsc : c = s := by omega
    subst hsc
    obtain ⟨cc1, cc2, cc3, cc4, cc5, cc6, cc7⟩ := Ti_c hT
    have w1 : Int32.ofNat c ≤ Int32.ofNat c := (le_ofN (by omega) (by omega)).mpr (Nat.le_refl c)
    have w2 : Int32.ofNat kp ≤ Int32.ofNat kp := (le_ofN (by omega) (by omega)).mpr (Nat.le_refl kp)
    have e3 : R 3 = Int32.ofNat kp := by
      rw [cc2]
      congr 1
      omega
    have ef : f_X3_settleDue_L6 (n1 + 1) p B ex (Int32.ofNat kp) (Int32.ofNat c) = (ex, Int32.ofNat kp, B) := by
      simp only [f_X3_settleDue_L6, cc1, if_pos w1]
    have em : f_X7_closesDay_L4 (n2 + 1) (rs M R) ex (Int32.ofNat kp) = (ex, rs M R) := by
      simp only [f_X7_closesDay_L4, ma_rs0, ixl, e3, if_pos w2]
    rw [ef, em]
    refine ⟨kp, R, mi M 10, ?_, ?_, rfl, by rw [smi_self], hT, by simpa only [Nat.zero_add] using hR, Fr_r p B, rfl, ?_, fun h _ => h⟩
    · simp only [ok_X3_settleDue_L6, cc1]
      exact ⟨fun _ => trivial, fun h9 => absurd w1 h9⟩
    · simp only [ok_X7_closesDay_L4, ma_rs0, ixl, e3]
      exact ⟨fun _ => trivial, fun h9 => absurd w2 h9⟩
    · intro x w _ h
      simpa only [Nat.zero_add] using h
  | succ g ih =>
    intro n1 n2 s kp c B R M ex hs h1 h2 hT hR
    obtain ⟨n1, rfl⟩ : ∃ q, n1 = q + 1 := ⟨n1 - 1, by omega⟩
    obtain ⟨n2, rfl⟩ : ∃ q, n2 = q + 1 := ⟨n2 - 1, by omega⟩
    obtain ⟨cc1, cc2, cc3, cc4, cc5, cc6, cc7⟩ := Ti_c hT
    have hn : n ≤ 8 := hR.1.1
    have hn1 : R 1 = Int32.ofNat n := hR.1.2.1
    have ht10 : g + 1 + kp ≤ 10 := hR.2.1.1
    have w1 : ¬ Int32.ofNat c ≤ Int32.ofNat s := by
      rw [le_ofN (by omega) (by omega)]
      omega
    have e3 : R 3 = Int32.ofNat (g + 1 + kp) := by
      rw [cc2]
      congr 1
      omega
    have w2 : ¬ Int32.ofNat (g + 1 + kp) ≤ Int32.ofNat kp := by
      rw [le_ofN (by omega) (by omega)]
      omega
    have hx : ix (Int32.ofNat s) = s := ix_o (by omega)
    have hv : vp_in (Int32.ofNat s) 10 := in_o (by omega) (by omega)
    have tp := Ti_p hT (k := 0) (by omega)
    simp only [Nat.add_zero] at tp
    have t11 := tp.2.2.2.2
    have s0 := (Ti_s hT).1
    obtain ⟨⟨i, hi, e1⟩, ⟨j, hj, e2⟩, y1, y2, d1, d2, id1, id2⟩ := hR.2.1.2.2.1 kp (by omega)
    have p4 : f_X7_ofPlace (rs M R) (Int32.ofNat kp) 4 = R (48 + 5 * kp) := pl_4 (by omega)
    have okp4 : ok_X7_ofPlace (rs M R) (Int32.ofNat kp) 4 := ok_pl4 (by omega)
    by_cases hd : R (48 + 5 * kp) = R 0
    · obtain ⟨os, sc1, sc0, sF⟩ := set_C hT hR hi hj (by omega) e1 e2 rfl y1 y2 (by omega)
      obtain ⟨om, mc1, mc0⟩ := mov_M (M := M) hn1 hn (by omega) hi hj e1 e2 rfl (k := kp)
      have od : ∀ R', ok_X7_drops (rs M R') (Int32.ofNat kp) := fun R' => (drp_R M R' (by omega)).2
      by_cases hc : cov R i (R (47 + 5 * kp))
      · obtain ⟨z1, zT⟩ := sc1 hc
        have zM := mc1 hc
        have dM := (drp_R M (mvR R i j (R (47 + 5 * kp))) (k := kp) (by omega)).1
        have nT := Ti_drop zT (by omega)
        have nR := mv_RB hR (k := kp) (by omega) (Nat.le_refl kp) hi hj y1 y2 hc (by omega)
        obtain ⟨l1, l2, l3⟩ := lo_mv R i j (R (47 + 5 * kp)) (by omega) (by omega)
        rw [show g + 1 + kp - 1 = g + kp by omega] at nR
        obtain ⟨kp', R', v, r1, r2, r3, r4, r5, r6, r7, r8, r9, r10⟩ := ih n1 n2 (s + 1) kp c (f_X3_settle p B (Int32.ofNat s)).2 (dw (mvR R i j (R (47 + 5 * kp))) kp) M (ex + 1) (by omega) (by omega) (by omega) nT nR
        have ef : f_X3_settleDue_L6 (n1 + 1) p B ex (Int32.ofNat kp) (Int32.ofNat s) = f_X3_settleDue_L6 n1 p (f_X3_settle p B (Int32.ofNat s)).2 (ex + 1) (Int32.ofNat kp) (Int32.ofNat (s + 1)) := by
          simp only [f_X3_settleDue_L6, cc1, if_neg w1, hx, t11, s0, if_pos hd, nm_eq, z1, i10, if_false, oad1]
        have em : f_X7_closesDay_L4 (n2 + 1) (rs M R) ex (Int32.ofNat kp) = f_X7_closesDay_L4 n2 (rs M (dw (mvR R i j (R (47 + 5 * kp))) kp)) (ex + 1) (Int32.ofNat kp) := by
          simp only [f_X7_closesDay_L4, ma_rs0, ixl, e3, if_neg w2, nm_eq, p4, if_pos hd, zM, i10, if_false, dM]
        rw [ef, em]
        have d0 : dw (mvR R i j (R (47 + 5 * kp))) kp 0 = R 0 := by
          simp only [dw]
          rw [if_neg (by omega), if_neg (by omega), l2]
        refine ⟨kp', R', v, ?_, ?_, r3, r4, r5, r6, Fr_t sF r7, r8.trans d0, ?_, fun h9 h10 => r10 h9 (fun k k1 k2 k3 => ?_)⟩
        · simp only [ok_X3_settleDue_L6, cc1, hx, t11, s0]
          refine ⟨fun _ => trivial, fun _ => ⟨hv, fun _ => ⟨os, ?_⟩, fun h9 => absurd hd h9⟩⟩
          rintro _ rfl
          rw [z1, oad1]
          exact ⟨fun h9 => absurd h9 (by decide), fun _ => r1⟩
        · simp only [ok_X7_closesDay_L4, ma_rs0, ixl, e3]
          refine ⟨fun _ => trivial, fun _ => ⟨okp4, ?_⟩⟩
          rintro _ rfl
          rw [p4]
          refine ⟨fun _ => ⟨om, ?_⟩, fun h9 => absurd hd h9⟩
          rintro _ rfl
          rw [zM]
          refine ⟨fun h9 => absurd (show (1 : Int32) = 0 from h9) (by decide), fun _ => ?_⟩
          rintro _ rfl
          refine ⟨od _, ?_⟩
          rintro _ rfl
          rw [dM]
          exact r2
        · intro x w hw hh
          have := stays_d (t := g + 1 + kp) (k := kp) (X := mvR R i j (R (47 + 5 * kp))) (by omega) (by omega) l1 hd x w hw hh
          rw [show g + 1 + kp - 1 = g + kp by omega] at this
          exact r9 x w (by rw [d0]; exact hw) this
        · have q1 : dw (mvR R i j (R (47 + 5 * kp))) kp (48 + 5 * k) = R (48 + 5 * (k + 1)) := by
            simp only [dw]
            rw [if_neg (by omega), if_pos (by omega), l1 _ (by omega) (by omega)]
            exact congrArg R (by omega)
          have q2 : dw (mvR R i j (R (47 + 5 * kp))) kp (44 + 5 * k) = R (44 + 5 * (k + 1)) := by
            simp only [dw]
            rw [if_neg (by omega), if_pos (by omega), l1 _ (by omega) (by omega)]
            exact congrArg R (by omega)
          rw [q1, d0] at k3
          rw [q2]
          exact h10 (k + 1) (by omega) (by omega) k3
      · obtain ⟨z1, zT⟩ := sc0 hc
        have zM := mc0 hc
        have dM := (drp_R (smi M 10 (hbw M (R (44 + 5 * kp)))) (bnR R i) (k := kp) (by omega)).1
        have od2 := (drp_R (smi M 10 (hbw M (R (44 + 5 * kp)))) (bnR R i) (k := kp) (by omega)).2
        have nT := Ti_drop zT (by omega)
        have nR := bn_RB hR (k := kp) (by omega) (Nat.le_refl kp) hi (by omega)
        obtain ⟨l1, l2, l3⟩ := lo_bn R i (by omega)
        rw [show g + 1 + kp - 1 = g + kp by omega] at nR
        obtain ⟨kp', R', v, r1, r2, r3, r4, r5, r6, r7, r8, r9, r10⟩ := ih n1 n2 (s + 1) kp c (f_X3_settle p B (Int32.ofNat s)).2 (dw (bnR R i) kp) (smi M 10 (hbw M (R (44 + 5 * kp)))) ex (by omega) (by omega) (by omega) nT nR
        have ef : f_X3_settleDue_L6 (n1 + 1) p B ex (Int32.ofNat kp) (Int32.ofNat s) = f_X3_settleDue_L6 n1 p (f_X3_settle p B (Int32.ofNat s)).2 ex (Int32.ofNat kp) (Int32.ofNat (s + 1)) := by
          simp only [f_X3_settleDue_L6, cc1, if_neg w1, hx, t11, s0, if_pos hd, nm_eq, z1, if_true, oad1]
        have em : f_X7_closesDay_L4 (n2 + 1) (rs M R) ex (Int32.ofNat kp) = f_X7_closesDay_L4 n2 (rs (smi M 10 (hbw M (R (44 + 5 * kp)))) (dw (bnR R i) kp)) ex (Int32.ofNat kp) := by
          simp only [f_X7_closesDay_L4, ma_rs0, ixl, e3, if_neg w2, nm_eq, p4, if_pos hd, zM, if_true, dM, Int32.add_zero]
        rw [ef, em]
        have d0 : dw (bnR R i) kp 0 = R 0 := by
          simp only [dw]
          rw [if_neg (by omega), if_neg (by omega), l2]
        refine ⟨kp', R', v, ?_, ?_, r3, by rw [r4, smi_smi], r5, r6, Fr_t sF r7, r8.trans d0, ?_, fun h9 h10 => r10 ?_ (fun k k1 k2 k3 => ?_)⟩
        · simp only [ok_X3_settleDue_L6, cc1, hx, t11, s0]
          refine ⟨fun _ => trivial, fun _ => ⟨hv, fun _ => ⟨os, ?_⟩, fun h9 => absurd hd h9⟩⟩
          rintro _ rfl
          rw [z1, oad1]
          exact ⟨fun _ => r1, fun h9 => absurd rfl h9⟩
        · simp only [ok_X7_closesDay_L4, ma_rs0, ixl, e3]
          refine ⟨fun _ => trivial, fun _ => ⟨okp4, ?_⟩⟩
          rintro _ rfl
          rw [p4]
          refine ⟨fun _ => ⟨om, ?_⟩, fun h9 => absurd hd h9⟩
          rintro _ rfl
          rw [zM]
          refine ⟨fun _ => ?_, fun h9 => absurd rfl h9⟩
          rintro _ rfl
          refine ⟨od2, ?_⟩
          rintro _ rfl
          rw [dM, Int32.add_zero]
          exact r2
        · intro x w hw hh
          have := stays_d (t := g + 1 + kp) (k := kp) (X := bnR R i) (by omega) (by omega) l1 hd x w hw hh
          rw [show g + 1 + kp - 1 = g + kp by omega] at this
          exact r9 x w (by rw [d0]; exact hw) this
        · show (if (10 : Nat) = 10 then hbw M (R (44 + 5 * kp)) else mi M 10) = 0
          rw [if_pos rfl]
          unfold hbw
          rw [if_pos h9, if_neg (h10 kp (Nat.le_refl kp) (by omega) hd)]
        · have q1 : dw (bnR R i) kp (48 + 5 * k) = R (48 + 5 * (k + 1)) := by
            simp only [dw]
            rw [if_neg (by omega), if_pos (by omega), l1 _ (by omega) (by omega)]
            exact congrArg R (by omega)
          have q2 : dw (bnR R i) kp (44 + 5 * k) = R (44 + 5 * (k + 1)) := by
            simp only [dw]
            rw [if_neg (by omega), if_pos (by omega), l1 _ (by omega) (by omega)]
            exact congrArg R (by omega)
          rw [q1, d0] at k3
          rw [q2]
          exact h10 (k + 1) (by omega) (by omega) k3
    · have hdd : (R 0).toInt < (R (48 + 5 * kp)).toInt := by
        rw [i32_inj] at hd
        omega
      obtain ⟨nT, oc, cF⟩ := Ti_copy hT (by omega)
      have nR : RB e D n (g + (kp + 1)) (kp + 1) 0 R := by
        rw [show g + (kp + 1) = g + 1 + kp by omega]
        refine RB_m hR (fun k k1 k2 k3 => ?_)
        have : k = kp := by omega
        rw [this]
        exact hdd
      obtain ⟨kp', R', v, r1, r2, r3, r4, r5, r6, r7, r8, r9, r10⟩ := ih n1 n2 (s + 1) (kp + 1) c (f_X5_copySlot (p + 6) (p + 6) B (Int32.ofNat s) (Int32.ofNat kp)) R M ex (by omega) (by omega) (by omega) nT nR
      have ef : f_X3_settleDue_L6 (n1 + 1) p B ex (Int32.ofNat kp) (Int32.ofNat s) = f_X3_settleDue_L6 n1 p (f_X5_copySlot (p + 6) (p + 6) B (Int32.ofNat s) (Int32.ofNat kp)) ex (Int32.ofNat (kp + 1)) (Int32.ofNat (s + 1)) := by
        simp only [f_X3_settleDue_L6, cc1, if_neg w1, hx, t11, s0, if_neg hd, nm_eq, oad1]
      have em : f_X7_closesDay_L4 (n2 + 1) (rs M R) ex (Int32.ofNat kp) = f_X7_closesDay_L4 n2 (rs M R) ex (Int32.ofNat (kp + 1)) := by
        simp only [f_X7_closesDay_L4, ma_rs0, ixl, e3, if_neg w2, nm_eq, p4, if_neg hd, oad1]
      rw [ef, em]
      refine ⟨kp', R', v, ?_, ?_, r3, r4, r5, r6, Fr_t cF r7, r8, ?_, fun h9 h10 => r10 h9 (fun k k1 k2 k3 => h10 k (by omega) (by omega) k3)⟩
      · simp only [ok_X3_settleDue_L6, cc1, hx, t11, s0]
        refine ⟨fun _ => trivial, fun _ => ⟨hv, fun h9 => absurd h9 hd, fun _ => ⟨oc, ?_⟩⟩⟩
        rintro _ rfl
        rw [oad1, oad1]
        exact r1
      · simp only [ok_X7_closesDay_L4, ma_rs0, ixl, e3]
        refine ⟨fun _ => trivial, fun _ => ⟨okp4, ?_⟩⟩
        rintro _ rfl
        rw [p4, oad1]
        exact ⟨fun h9 => absurd h9 hd, fun _ => r2⟩
      · intro x w hw hh
        rw [show g + (kp + 1) = g + 1 + kp by omega] at r9
        exact r9 x w hw hh
