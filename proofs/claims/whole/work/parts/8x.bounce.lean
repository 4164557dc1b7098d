/-! the pure part: would it bounce -/
/-- the model's loop over places, where none bears the watched id -/
theorem L4m {e D n : Nat} : ∀ (g n2 kp : Nat) (R : Nat → Int32) (M : StM) (ex : Int32), g < n2 → RB e D n (g + kp) kp 0 R → (∀ k, k < g + kp → R (44 + 5 * k) ≠ mi M 9) → ∃ ex' t' R' v, f_X7_closesDay_L4 n2 (rs M R) ex (Int32.ofNat kp) = (ex', rs (smi M 10 v) R') ∧ R' 3 = Int32.ofNat t' ∧ t' ≤ 10 ∧ (∀ k, k < t' → R' (44 + 5 * k) ≠ mi M 9) ∧ (mi M 10 = 0 → v = 0) ∧ (mi M 10 = 1 → v = 1) := by
  intro g
  induction g with
  | zero =>
    intro n2 kp R M ex h2 hR hw
    obtain ⟨n2, rfl⟩ : ∃ q, n2 = q + 1 := ⟨n2 - 1, by omega⟩
    rw [Nat.zero_add] at hR hw
    have ht := hR.2.1.1
    have e3 : R 3 = Int32.ofNat kp := hR.2.1.2.1
    have w2 : Int32.ofNat kp ≤ Int32.ofNat kp := (le_ofN (by omega) (by omega)).mpr (Nat.le_refl kp)
    refine ⟨ex, kp, R, mi M 10, ?_, e3, ht, hw, fun h => h, fun h => h⟩
    rw [smi_self]
    simp only [f_X7_closesDay_L4, ma_rs0, ixl, e3, if_pos w2]
  | succ g ih =>
    intro n2 kp R M ex h2 hR hw
    obtain ⟨n2, rfl⟩ : ∃ q, n2 = q + 1 := ⟨n2 - 1, by omega⟩
    have hn : n ≤ 8 := hR.1.1
    have hn1 : R 1 = Int32.ofNat n := hR.1.2.1
    have ht10 : g + 1 + kp ≤ 10 := hR.2.1.1
    have e3 : R 3 = Int32.ofNat (g + 1 + kp) := hR.2.1.2.1
    have w2 : ¬ Int32.ofNat (g + 1 + kp) ≤ Int32.ofNat kp := by
      rw [le_ofN (by omega) (by omega)]
      omega
    obtain ⟨⟨i, hi, e1⟩, ⟨j, hj, e2⟩, y1, y2, d1, d2, id1, id2⟩ := hR.2.1.2.2.1 kp (by omega)
    have p4 : f_X7_ofPlace (rs M R) (Int32.ofNat kp) 4 = R (48 + 5 * kp) := pl_4 (by omega)
    have shift : ∀ X : Nat → Int32, (∀ q, 44 ≤ q → q < 94 → X q = R q) → ∀ k, k < g + kp → dw X kp (44 + 5 * k) ≠ mi M 9 := by
      intro X hX k hk
      by_cases hlt : k < kp
      · simp only [dw]
        rw [if_neg (by omega), if_neg (by omega), hX _ (by omega) (by omega)]
        exact hw k (by omega)
      · simp only [dw]
        rw [if_neg (by omega), if_pos (by omega), hX _ (by omega) (by omega), show 44 + 5 * k + 5 = 44 + 5 * (k + 1) by omega]
        exact hw (k + 1) (by omega)
    by_cases hd : R (48 + 5 * kp) = R 0
    · obtain ⟨om, mc1, mc0⟩ := mov_M (M := M) hn1 hn (by omega) hi hj e1 e2 rfl (k := kp)
      by_cases hc : cov R i (R (47 + 5 * kp))
      · have zM := mc1 hc
        have dM := (drp_R M (mvR R i j (R (47 + 5 * kp))) (k := kp) (by omega)).1
        have nR := mv_RB hR (k := kp) (by omega) (Nat.le_refl kp) hi hj y1 y2 hc (by omega)
        obtain ⟨l1, l2, l3⟩ := lo_mv R i j (R (47 + 5 * kp)) (by omega) (by omega)
        rw [show g + 1 + kp - 1 = g + kp by omega] at nR
        obtain ⟨ex', t', R', v, r1, r2, r3, r4, r5, r6⟩ := ih n2 kp (dw (mvR R i j (R (47 + 5 * kp))) kp) M (ex + 1) (by omega) nR (shift _ l1)
        refine ⟨ex', t', R', v, ?_, r2, r3, r4, r5, r6⟩
        rw [← r1]
        simp only [f_X7_closesDay_L4, ma_rs0, ixl, e3, if_neg w2, nm_eq, p4, if_pos hd, zM, i10, if_false, dM]
      · have zM := mc0 hc
        have dM := (drp_R (smi M 10 (hbw M (R (44 + 5 * kp)))) (bnR R i) (k := kp) (by omega)).1
        have nR := bn_RB hR (k := kp) (by omega) (Nat.le_refl kp) hi (by omega)
        obtain ⟨l1, l2, l3⟩ := lo_bn R i (by omega)
        rw [show g + 1 + kp - 1 = g + kp by omega] at nR
        have h9 : mi (smi M 10 (hbw M (R (44 + 5 * kp)))) 9 = mi M 9 := by rw [mi_smi, if_neg (by decide)]
        have h10 : mi (smi M 10 (hbw M (R (44 + 5 * kp)))) 10 = hbw M (R (44 + 5 * kp)) := by rw [mi_smi, if_pos rfl]
        obtain ⟨ex', t', R', v, r1, r2, r3, r4, r5, r6⟩ := ih n2 kp (dw (bnR R i) kp) (smi M 10 (hbw M (R (44 + 5 * kp)))) ex (by omega) nR (by rw [h9]; exact shift _ l1)
        rw [h9] at r4
        rw [h10] at r5 r6
        refine ⟨ex', t', R', v, ?_, r2, r3, r4, fun h => r5 ?_, fun h => r6 ?_⟩
        · rw [smi_smi] at r1
          rw [← r1]
          simp only [f_X7_closesDay_L4, ma_rs0, ixl, e3, if_neg w2, nm_eq, p4, if_pos hd, zM, if_true, dM, Int32.add_zero]
        · unfold hbw
          rw [if_pos h, if_neg (hw kp (by omega))]
        · unfold hbw
          rw [h, if_neg (by decide)]
    · have hdd : (R 0).toInt < (R (48 + 5 * kp)).toInt := by
        rw [i32_inj] at hd
        omega
      have nR : RB e D n (g + (kp + 1)) (kp + 1) 0 R := by
        rw [show g + (kp + 1) = g + 1 + kp by omega]
        refine RB_m hR (fun k k1 k2 k3 => ?_)
        have : k = kp := by omega
        rw [this]
        exact hdd
      obtain ⟨ex', t', R', v, r1, r2, r3, r4, r5, r6⟩ := ih n2 (kp + 1) R M ex (by omega) nR (fun k hk => hw k (by omega))
      refine ⟨ex', t', R', v, ?_, r2, r3, r4, r5, r6⟩
      rw [← r1]
      simp only [f_X7_closesDay_L4, ma_rs0, ixl, e3, if_neg w2, nm_eq, p4, if_neg hd, oad1]
theorem add_ids (p : Nat) (C : StB) (k a w : Int32) (j : Nat) : ba (f_X2_add (p + 12) C k a w) (p + 7) j = ba C (p + 7) j := by
  unfold f_X2_add
  split
  · simp only [nm_eq, ba_sbi, ba_sba]
    rw [if_neg (by omega), if_neg (by omega), if_neg (by omega)]
  · rfl
theorem col_ids (p : Nat) (C : StB) (k a w : Int32) (j : Nat) : ba (f_X3_collect p C k a w) (p + 7) j = ba C (p + 7) j := by
  unfold f_X3_collect
  simp only [nm_eq]
  rw [add_ids]
  simp only [ba_sbl, ba_sbi, ba_sba]
  rw [if_neg (by omega)]
theorem set_ids (p : Nat) (C : StB) (a : Int32) (j : Nat) : ba (f_X3_settle p C a).2 (p + 7) j = ba C (p + 7) j := by
  unfold f_X3_settle
  simp only [nm_eq]
  split
  · show ba (f_X3_collect _ _ _ _ _) (p + 7) j = _
    rw [col_ids, ba_sbi]
  · show ba (f_X2_add _ _ _ _ _) (p + 7) j = _
    rw [add_ids]
    simp only [ba_sbl, ba_sba]
    rw [if_neg (by omega), if_neg (by omega), if_neg (by omega)]
/-- up to the watched one -/
theorem L_bef {e D n p : Nat} (x : Int32) : ∀ (g n1 n2 s kp c : Nat) (B : StB) (R : Nat → Int32) (M : StM) (ex : Int32), kp + g < c - s + kp → s ≤ c → g < n1 → c - s < n2 → Ti 0 n s kp c B p R → RB e D n (c - s + kp) kp 0 R → R (44 + 5 * (kp + g)) = x → R (48 + 5 * (kp + g)) = R 0 → mi M 9 = x → mi M 10 = 0 → ok_X3_settleDueBefore_L2 n1 p B x (Int32.ofNat s) ∧ Fr p B (f_X3_settleDueBefore_L2 n1 p B x (Int32.ofNat s)) ∧ ∃ s' kp' R' ex' n2', s' < c ∧ c - s' < n2' ∧ Ti 0 n s' kp' c (f_X3_settleDueBefore_L2 n1 p B x (Int32.ofNat s)) p R' ∧ RB e D n (c - s' + kp') kp' 0 R' ∧ R' (44 + 5 * kp') = x ∧ R' (48 + 5 * kp') = R' 0 ∧ f_X7_closesDay_L4 n2 (rs M R) ex (Int32.ofNat kp) = f_X7_closesDay_L4 n2' (rs (smi M 10 0) R') ex' (Int32.ofNat kp') ∧ (∀ k, s ≤ k → ba (f_X3_settleDueBefore_L2 n1 p B x (Int32.ofNat s)) (p + 7) k = ba B (p + 7) k) ∧ (∀ k, ba (f_X3_settleDueBefore_L2 n1 p B x (Int32.ofNat s)) (p + 7) k = ba B (p + 7) k) ∧ s' = s + g := by
  intro g
  induction g with
  | zero =>
    intro n1 n2 s kp c B R M ex hk hs h1 h2 hT hR hx hdue h9 h10
    obtain ⟨n1, rfl⟩ : ∃ q, n1 = q + 1 := ⟨n1 - 1, by omega⟩
    obtain ⟨cc1, cc2, cc3, cc4, cc5, cc6, cc7⟩ := Ti_c hT
    rw [Nat.add_zero] at hx hdue
    have w1 : ¬ Int32.ofNat c ≤ Int32.ofNat s := by
      rw [le_ofN (by omega) (by omega)]
      omega
    have hxs : ix (Int32.ofNat s) = s := ix_o (by omega)
    have hv : vp_in (Int32.ofNat s) 10 := in_o (by omega) (by omega)
    have tp := Ti_p hT (k := 0) (by omega)
    simp only [Nat.add_zero] at tp
    have hle : x ≤ ba B (p + 7) s := by
      rw [tp.1, hx, i32_le]
      exact Int.le_refl _
    have ef : f_X3_settleDueBefore_L2 (n1 + 1) p B x (Int32.ofNat s) = B := by
      simp only [f_X3_settleDueBefore_L2, cc1, if_neg w1, hxs, if_pos hle]
    rw [ef]
    refine ⟨?_, Fr_r p B, s, kp, R, ex, n2, by omega, h2, hT, hR, hx, hdue, ?_, fun _ _ => rfl, fun _ => rfl, by omega⟩
    · unfold ok_X3_settleDueBefore_L2
      rw [cc1, hxs]
      exact ⟨fun _ => trivial, fun _ => ⟨hv, fun _ => trivial, fun h => absurd hle h⟩⟩
    · rw [← h10, smi_self]
  | succ g ih =>
    intro n1 n2 s kp c B R M ex hk hs h1 h2 hT hR hx hdue h9 h10
    obtain ⟨n1, rfl⟩ : ∃ q, n1 = q + 1 := ⟨n1 - 1, by omega⟩
    obtain ⟨n2, rfl⟩ : ∃ q, n2 = q + 1 := ⟨n2 - 1, by omega⟩
    obtain ⟨cc1, cc2, cc3, cc4, cc5, cc6, cc7⟩ := Ti_c hT
    have hn : n ≤ 8 := hR.1.1
    have hn1 : R 1 = Int32.ofNat n := hR.1.2.1
    have ht10 : c - s + kp ≤ 10 := hR.2.1.1
    have w1 : ¬ Int32.ofNat c ≤ Int32.ofNat s := by
      rw [le_ofN (by omega) (by omega)]
      omega
    have w2 : ¬ Int32.ofNat (c - s + kp) ≤ Int32.ofNat kp := by
      rw [le_ofN (by omega) (by omega)]
      omega
    have hxs : ix (Int32.ofNat s) = s := ix_o (by omega)
    have hv : vp_in (Int32.ofNat s) 10 := in_o (by omega) (by omega)
    have tp := Ti_p hT (k := 0) (by omega)
    simp only [Nat.add_zero] at tp
    have s0 := (Ti_s hT).1
    have hlt : (R (44 + 5 * kp)).toInt < x.toInt := by
      rw [← hx]
      exact hR.2.1.2.2.2.2 kp (kp + (g + 1)) (by omega) (by omega)
    have hle : ¬ x ≤ ba B (p + 7) s := by
      rw [tp.1, i32_le]
      omega
    have hne : R (44 + 5 * kp) ≠ mi M 9 := by
      rw [h9]
      intro h
      rw [h] at hlt
      omega
    obtain ⟨⟨i, hi, e1⟩, ⟨j, hj, e2⟩, y1, y2, d1, d2, id1, id2⟩ := hR.2.1.2.2.1 kp (by omega)
    have p4 : f_X7_ofPlace (rs M R) (Int32.ofNat kp) 4 = R (48 + 5 * kp) := pl_4 (by omega)
    by_cases hd : R (48 + 5 * kp) = R 0
    · obtain ⟨os, sc1, sc0, sF⟩ := set_C hT hR hi hj (by omega) e1 e2 rfl y1 y2 (by omega)
      obtain ⟨om, mc1, mc0⟩ := mov_M (M := M) hn1 hn (by omega) hi hj e1 e2 rfl (k := kp)
      -- the row after the step
      have step : ∃ X ex1 M1, Ti 0 n s kp c (f_X3_settle p B (Int32.ofNat s)).2 p X ∧ RB e D n (c - s + kp - 1) kp 0 (dw X kp) ∧ (∀ q, 44 ≤ q → q < 94 → X q = R q) ∧ X 0 = R 0 ∧ f_X7_closesDay_L4 (n2 + 1) (rs M R) ex (Int32.ofNat kp) = f_X7_closesDay_L4 n2 (rs (smi M 10 0) (dw X kp)) ex1 (Int32.ofNat kp) ∧ M1 = M := by
        by_cases hc : cov R i (R (47 + 5 * kp))
        · obtain ⟨z1, zT⟩ := sc1 hc
          have zM := mc1 hc
          have dM := (drp_R M (mvR R i j (R (47 + 5 * kp))) (k := kp) (by omega)).1
          have nR := mv_RB hR (k := kp) (by omega) (Nat.le_refl kp) hi hj y1 y2 hc (by omega)
          obtain ⟨l1, l2, l3⟩ := lo_mv R i j (R (47 + 5 * kp)) (by omega) (by omega)
          refine ⟨_, ex + 1, M, zT, nR, l1, l2, ?_, rfl⟩
          rw [← h10, smi_self]
          simp only [f_X7_closesDay_L4, ma_rs0, ixl, cc2, if_neg w2, nm_eq, p4, if_pos hd, zM, i10, if_false, dM]
        · obtain ⟨z1, zT⟩ := sc0 hc
          have zM := mc0 hc
          have hb : hbw M (R (44 + 5 * kp)) = 0 := by
            unfold hbw
            rw [if_pos h10, if_neg hne]
          rw [hb] at zM
          have dM := (drp_R (smi M 10 0) (bnR R i) (k := kp) (by omega)).1
          have nR := bn_RB hR (k := kp) (by omega) (Nat.le_refl kp) hi (by omega)
          obtain ⟨l1, l2, l3⟩ := lo_bn R i (by omega)
          refine ⟨_, ex, M, zT, nR, l1, l2, ?_, rfl⟩
          simp only [f_X7_closesDay_L4, ma_rs0, ixl, cc2, if_neg w2, nm_eq, p4, if_pos hd, zM, if_true, dM, Int32.add_zero]
      obtain ⟨X, ex1, _, zT, nR, l1, l2, em, _⟩ := step
      have nT := Ti_drop zT (by omega)
      have d0 : dw X kp 0 = R 0 := by
        simp only [dw]
        rw [if_neg (by omega), if_neg (by omega), l2]
      rw [show c - s + kp - 1 = c - (s + 1) + kp by omega] at nR
      obtain ⟨r1, r2, s', kp', R', ex', n2', r3, r4, r5, r6, r7, r8, r9, r10, r11, r12⟩ := ih n1 n2 (s + 1) kp c (f_X3_settle p B (Int32.ofNat s)).2 (dw X kp) (smi M 10 0) ex1 (by omega) (by omega) (by omega) (by omega) nT nR (by
        simp only [dw]
        rw [if_neg (by omega), if_pos (by omega), l1 _ (by omega) (by omega), ← hx]
        exact congrArg R (by omega)) (by
        rw [d0, ← hdue]
        simp only [dw]
        rw [if_neg (by omega), if_pos (by omega), l1 _ (by omega) (by omega)]
        exact congrArg R (by omega)) (by rw [mi_smi, if_neg (by decide)]; exact h9) (by rw [mi_smi, if_pos rfl])
      have ef : f_X3_settleDueBefore_L2 (n1 + 1) p B x (Int32.ofNat s) = f_X3_settleDueBefore_L2 n1 p (f_X3_settle p B (Int32.ofNat s)).2 x (Int32.ofNat (s + 1)) := by
        simp only [f_X3_settleDueBefore_L2, cc1, if_neg w1, hxs, if_neg hle, tp.2.2.2.2, s0, if_pos hd, nm_eq, oad1]
      have hids : ∀ k, ba (f_X3_settle p B (Int32.ofNat s)).2 (p + 7) k = ba B (p + 7) k := fun k => set_ids p B _ k
      rw [ef, em]
      refine ⟨?_, Fr_t sF r2, s', kp', R', ex', n2', r3, r4, r5, r6, r7, r8, by rw [r9, smi_smi], fun k hk => (r11 k).trans (hids k), fun k => (r11 k).trans (hids k), by omega⟩
      unfold ok_X3_settleDueBefore_L2
      rw [cc1, hxs]
      refine ⟨fun _ => trivial, fun _ => ⟨hv, fun h => absurd h hle, fun _ => ⟨hv, fun _ => ⟨os, ?_⟩, fun h => absurd (by rw [tp.2.2.2.2, s0]; exact hd) h⟩⟩⟩
      intro z hz
      rw [hz, oad1]
      exact r1
    · have hdd : (R 0).toInt < (R (48 + 5 * kp)).toInt := by
        rw [i32_inj] at hd
        omega
      have nT := Ti_stay hT (by omega)
      have nR : RB e D n (c - (s + 1) + (kp + 1)) (kp + 1) 0 R := by
        rw [show c - (s + 1) + (kp + 1) = c - s + kp by omega]
        refine RB_m hR (fun k k1 k2 k3 => ?_)
        have : k = kp := by omega
        rw [this]
        exact hdd
      obtain ⟨r1, r2, s', kp', R', ex', n2', r3, r4, r5, r6, r7, r8, r9, r10, r11, r12⟩ := ih n1 n2 (s + 1) (kp + 1) c B R M ex (by omega) (by omega) (by omega) (by omega) nT nR (by rw [show kp + 1 + g = kp + (g + 1) by omega]; exact hx) (by rw [show kp + 1 + g = kp + (g + 1) by omega]; exact hdue) h9 h10
      have ef : f_X3_settleDueBefore_L2 (n1 + 1) p B x (Int32.ofNat s) = f_X3_settleDueBefore_L2 n1 p B x (Int32.ofNat (s + 1)) := by
        simp only [f_X3_settleDueBefore_L2, cc1, if_neg w1, hxs, if_neg hle, tp.2.2.2.2, s0, if_neg hd, oad1]
      have em : f_X7_closesDay_L4 (n2 + 1) (rs M R) ex (Int32.ofNat kp) = f_X7_closesDay_L4 n2 (rs M R) ex (Int32.ofNat (kp + 1)) := by
        simp only [f_X7_closesDay_L4, ma_rs0, ixl, cc2, if_neg w2, nm_eq, p4, if_neg hd, oad1]
      rw [ef, em]
      refine ⟨?_, r2, s', kp', R', ex', n2', r3, r4, r5, r6, r7, r8, r9, fun k hk => r11 k, r11, by omega⟩
      unfold ok_X3_settleDueBefore_L2
      rw [cc1, hxs]
      refine ⟨fun _ => trivial, fun _ => ⟨hv, fun h => absurd h hle, fun _ => ⟨hv, fun h => absurd (by rw [tp.2.2.2.2, s0] at h; exact h) hd, fun _ => ?_⟩⟩⟩
      rw [oad1]
      exact r1
theorem L_wb {n p : Nat} (x : Int32) (d : Nat) (hd : d ≤ 1000) : ∀ (g n1 n2 j e D t : Nat) (B : StB) (R : Nat → Int32) (M : StM) (ex : Int32), j + g = d → g < n1 → g + 1 < n2 → D + g + 1 ≤ 37000 → Ti 0 n 0 0 t B p R → RB e D n t 0 0 R → (∃ k, k < t ∧ R (44 + 5 * k) = x ∧ (R (48 + 5 * k)).toInt = (R 0).toInt + (g : Int)) → mi M 9 = x → mi M 10 = 0 → ok_X3_passDays_L4 n1 p B (Int32.ofNat d) ex (Int32.ofNat j) ∧ Fr p B (f_X3_passDays_L4 n1 p B (Int32.ofNat d) ex (Int32.ofNat j)).2 ∧ ∃ t' R' n2', 1 < n2' ∧ Ti 0 n 0 0 t' (f_X3_passDays_L4 n1 p B (Int32.ofNat d) ex (Int32.ofNat j)).2 p R' ∧ RB e (D + g) n t' 0 0 R' ∧ (∃ k, k < t' ∧ R' (44 + 5 * k) = x ∧ R' (48 + 5 * k) = R' 0) ∧ f_X7_wouldBounce_L46 n2 (rs M R) x = f_X7_wouldBounce_L46 n2' (rs M R') x ∧ (ok_X7_wouldBounce_L46 n2' (rs M R') x → ok_X7_wouldBounce_L46 n2 (rs M R) x) := by
  intro g
  induction g with
  | zero =>
    intro n1 n2 j e D t B R M ex hj h1 h2 hD hT hR hx h9 h10
    obtain ⟨n1, rfl⟩ : ∃ q, n1 = q + 1 := ⟨n1 - 1, by omega⟩
    have hdj : d = j := by omega
    subst hdj
    have w1 : Int32.ofNat d ≤ Int32.ofNat d := (le_ofN (by omega) (by omega)).mpr (Nat.le_refl d)
    have ef : f_X3_passDays_L4 (n1 + 1) p B (Int32.ofNat d) ex (Int32.ofNat d) = (ex, B) := by
      simp only [f_X3_passDays_L4, if_pos w1]
    rw [ef]
    obtain ⟨k, k1, k2, k3⟩ := hx
    refine ⟨⟨fun _ => trivial, fun h9 => absurd w1 h9⟩, Fr_r p B, t, R, n2, by omega, hT, hR, ⟨k, k1, k2, ?_⟩, rfl, fun h => h⟩
    rw [i32_inj]
    omega
  | succ g ih =>
    intro n1 n2 j e D t B R M ex hj h1 h2 hD hT hR hx h9 h10
    obtain ⟨n1, rfl⟩ : ∃ q, n1 = q + 1 := ⟨n1 - 1, by omega⟩
    obtain ⟨n2, rfl⟩ : ∃ q, n2 = q + 1 := ⟨n2 - 1, by omega⟩
    have w1 : ¬ Int32.ofNat d ≤ Int32.ofNat j := by
      rw [le_ofN (by omega) (by omega)]
      omega
    have ht10 : t ≤ 10 := hR.2.1.1
    have hu := bT_uq hR.2.1
    obtain ⟨k, k1, k2, k3⟩ := hx
    obtain ⟨t1, R1, v1, d1, d2, d3, d4, d5, d6, d7, d8, d9, d10⟩ := day_sim M hT hR (by omega)
    have hS := hR.2.2
    unfold bS at hS
    have v0 : (R 0 + 1).toInt = (R 0).toInt + 1 := by
      rw [i32_add (by rw [lit.2.1]; omega) (by rw [lit.2.1]; omega), lit.2.1]
    have hnd : R (48 + 5 * k) ≠ R 0 := by
      intro h
      rw [h] at k3
      omega
    have hv : v1 = 0 := d9 h10 (fun q q1 q2 q3 => by
      have : q = k := hu q k q1 k1 (by rw [q3, h9, k2])
      subst this
      exact hnd q2)
    subst hv
    have hM : smi M 10 0 = M := by
      have := smi_self M 10
      rwa [h10] at this
    rw [hM] at d3
    have hx1 : ∃ k, k < t1 ∧ R1 (44 + 5 * k) = x ∧ (R1 (48 + 5 * k)).toInt = (R1 0).toInt + (g : Int) := by
      obtain ⟨k', q1, q2, q3⟩ := d8 x (R (48 + 5 * k)) hnd ⟨k, k1, k2, rfl⟩
      refine ⟨k', q1, q2, ?_⟩
      rw [q3, d7, v0, k3]
      omega
    obtain ⟨r1, r2, t', R', n2', r3, r4, r5, r6, r7, r8⟩ := ih n1 n2 (j + 1) e (D + 1) t1 (dayB p B) R1 M (ex + (f_X3_settleDue p B).1) (by omega) (by omega) (by omega) (by omega) d4 d5 hx1 h9 h10
    have ef : f_X3_passDays_L4 (n1 + 1) p B (Int32.ofNat d) ex (Int32.ofNat j) = f_X3_passDays_L4 n1 p (dayB p B) (Int32.ofNat d) (ex + (f_X3_settleDue p B).1) (Int32.ofNat (j + 1)) := by
      simp only [f_X3_passDays_L4, if_neg w1, nm_eq, oad1]
      rfl
    have fm := find_M (M := M) x hR.2.1.2.1 ht10 hu
    have hf := fm.2.2 k k1 k2
    have hne := ne_m1 (m := k) (by omega)
    have em : f_X7_wouldBounce_L46 (n2 + 1) (rs M R) x = f_X7_wouldBounce_L46 n2 (rs M R1) x := by
      unfold f_X7_wouldBounce_L46
      rw [nm_eq, hf, if_neg hne, nm_eq, d3]
      cases n2 <;> rfl
    rw [ef, em]
    refine ⟨?_, Fr_t d6 r2, t', R', n2', r3, r4, ?_, r6, r7, fun h => ?_⟩
    · refine ⟨fun _ => trivial, fun _ => ⟨d1.1, ?_⟩⟩
      intro z hz
      rw [hz]
      intro z2 hz2
      rw [hz2]
      refine ⟨d1.2.1, ?_⟩
      intro z3 hz3
      rw [hz3]
      refine ⟨d1.2.2, ?_⟩
      intro z4 hz4
      rw [hz4]
      intro z5 hz5
      rw [hz5, oad1]
      exact r1
    · rw [show D + (g + 1) = D + 1 + g by omega]
      exact r5
    · unfold ok_X7_wouldBounce_L46
      refine ⟨fm.1, ?_⟩
      intro z hz
      rw [hz, hf]
      refine ⟨fun h => absurd h hne, fun _ => ⟨d2, ?_⟩⟩
      intro z2 hz2
      rw [hz2, d3]
      exact r8 h
/-- the last day -/
theorem wb_last {e D n t p m : Nat} {B : StB} {R : Nat → Int32} {M : StM} {x : Int32} (hT : Ti 0 n 0 0 t B p R) (hR : RB e D n t 0 0 R) (hD : D + 1 ≤ 37000) (hm : m < t) (hx : R (44 + 5 * m) = x) (hdue : R (48 + 5 * m) = R 0) (h9 : mi M 9 = x) (h10 : mi M 10 = 0) (n2 : Nat) (h2 : 1 < n2) : ok_X3_settleDueBefore p B x ∧ Fr p B (f_X3_settleDueBefore p B x) ∧ ok_X5_find (p + 6) (f_X3_settleDueBefore p B x) x ∧ ok_X3_covers p (f_X3_settleDueBefore p B x) (f_X5_find (p + 6) (f_X3_settleDueBefore p B x) x) ∧ ok_X7_wouldBounce_L46 n2 (rs M R) x ∧ ∃ R8 v, f_X7_wouldBounce_L46 n2 (rs M R) x = rs (smi M 10 v) R8 ∧ ((f_X3_covers p (f_X3_settleDueBefore p B x) (f_X5_find (p + 6) (f_X3_settleDueBefore p B x) x) = 0 ∧ v = 1) ∨ (f_X3_covers p (f_X3_settleDueBefore p B x) (f_X5_find (p + 6) (f_X3_settleDueBefore p B x) x) = 1 ∧ v = 0)) := by
  obtain ⟨n2, rfl⟩ : ∃ q, n2 = q + 1 + 1 := ⟨n2 - 2, by omega⟩
  have ht10 : t ≤ 10 := hR.2.1.1
  have hn : n ≤ 8 := hR.1.1
  have hu := bT_uq hR.2.1
  have z0 : Int32.ofNat 0 = 0 := rfl
  obtain ⟨t8, R8, v, d1, d2, d3, d4, d5, d6, d7, d8, d9, R1, d10, d11, d12⟩ := day_sim M hT hR hD
  have hfu : 12 < fu := by unfold fu; omega
  obtain ⟨b1, b2, s', kp', R', ex', q2, b3, b4, b5, b6, b7, b8, b9, b10, b11, b12⟩ := L_bef (e := e) (D := D) x m fu fu 0 0 t B R M 0 (by omega) (by omega) (by omega) (by omega) hT (by simpa only [Nat.sub_zero, Nat.add_zero] using hR) (by rw [Nat.zero_add]; exact hx) (by rw [Nat.zero_add]; exact hdue) h9 h10
  rw [z0] at b1 b2 b5 b9 b11
  rw [b9] at d10
  have eB : f_X3_settleDueBefore p B x = f_X3_settleDueBefore_L2 fu p B x 0 := by
    unfold f_X3_settleDueBefore
    rw [nm_eq]
  rw [← eB] at b2 b5 b11
  have okB : ok_X3_settleDueBefore p B x := b1
  have hs : s' = m := by omega
  subst hs
  obtain ⟨cc1, cc2, cc3, cc4, cc5, cc6, cc7⟩ := Ti_c b5
  have fc := L_findC (f_X3_settleDueBefore p B x) (p + 6) x t cc1 ht10 fu 0 (by omega) (by omega)
  clear hfu
  have ids : ∀ k, k < t → ba (f_X3_settleDueBefore p B x) (p + 6 + 1) k = R (44 + 5 * k) := fun k hk => (b11 k).trans (Ti_q hT hk).1
  have hf : f_X5_find (p + 6) (f_X3_settleDueBefore p B x) x = Int32.ofNat s' := fc.2.2 s' (Nat.zero_le _) hm (by rw [ids s' hm]; exact hx) (fun j hj h => hu j s' hj hm (by rw [ids j hj] at h; exact h.trans hx.symm))
  obtain ⟨⟨i, hi, e1⟩, ⟨j, hj, e2⟩, y1, y2, dd1, dd2, id1, id2⟩ := b6.2.1.2.2.1 kp' (by omega)
  have bb := bA_at b6.1 hi
  have hSS := b6.2.2
  unfold bS at hSS
  have hbal : (R' (13 + 4 * i)).toInt ≤ 100000000 := by
    have b8' := bb.2.2.2.2.2.2.2
    rw [if_neg (by omega)] at b8'
    omega
  obtain ⟨ocv, cv1, cv0⟩ := cov_C (m := 0) b5 b6.1 hi hbal (by omega) e1 rfl y1 y2
  -- the model's step at the watched one
  have hn1 : R' 1 = Int32.ofNat n := b6.1.2.1
  obtain ⟨q2, rfl⟩ : ∃ q, q2 = q + 1 := ⟨q2 - 1, by omega⟩
  have tt10 : t - s' + kp' ≤ 10 := b6.2.1.1
  have w2 : ¬ Int32.ofNat (t - s' + kp') ≤ Int32.ofNat kp' := by
    rw [le_ofN (by omega) (by omega)]
    omega
  have p4 : f_X7_ofPlace (rs (smi M 10 0) R') (Int32.ofNat kp') 4 = R' (48 + 5 * kp') := pl_4 (by omega)
  have hM : smi M 10 0 = M := by
    have := smi_self M 10
    rwa [h10] at this
  rw [hM] at d10 p4
  have hu' := bT_uq b6.2.1
  have noX : ∀ X : Nat → Int32, (∀ q, 44 ≤ q → q < 94 → X q = R' q) → ∀ k, k < t - s' - 1 + kp' → dw X kp' (44 + 5 * k) ≠ x := by
    intro X hX k hk h
    by_cases hlt : k < kp'
    · simp only [dw] at h
      rw [if_neg (by omega), if_neg (by omega), hX _ (by omega) (by omega)] at h
      have := hu' k kp' (by omega) (by omega) (h.trans b7.symm)
      omega
    · simp only [dw] at h
      rw [if_neg (by omega), if_pos (by omega), hX _ (by omega) (by omega), show 44 + 5 * k + 5 = 44 + 5 * (k + 1) by omega] at h
      have := hu' (k + 1) kp' (by omega) (by omega) (h.trans b7.symm)
      omega
  obtain ⟨om, mc1, mc0⟩ := mov_M (M := M) hn1 hn (by omega) hi hj e1 e2 rfl (k := kp')
  have key : (cov R' i (R' (47 + 5 * kp')) → v = 0) ∧ (¬ cov R' i (R' (47 + 5 * kp')) → v = 1) ∧ (∀ k, k < t8 → R8 (44 + 5 * k) ≠ x) := by
    by_cases hc : cov R' i (R' (47 + 5 * kp'))
    · have zM := mc1 hc
      have dM := (drp_R M (mvR R' i j (R' (47 + 5 * kp'))) (k := kp') (by omega)).1
      have nR := mv_RB b6 (k := kp') (by omega) (Nat.le_refl kp') hi hj y1 y2 hc (by omega)
      obtain ⟨l1, l2, l3⟩ := lo_mv R' i j (R' (47 + 5 * kp')) (by omega) (by omega)
      rw [show t - s' + kp' - 1 = t - s' - 1 + kp' by omega] at nR
      obtain ⟨ex2, t2, R2, v2, u1, u2, u3, u4, u5, u6⟩ := L4m (t - s' - 1) q2 kp' (dw (mvR R' i j (R' (47 + 5 * kp'))) kp') M (ex' + 1) (by omega) nR (by rw [h9]; exact noX _ l1)
      have em : f_X7_closesDay_L4 (q2 + 1) (rs M R') ex' (Int32.ofNat kp') = (ex2, rs (smi M 10 v2) R2) := by
        rw [← u1]
        simp only [f_X7_closesDay_L4, ma_rs0, ixl, cc2, if_neg w2, nm_eq, p4, if_pos b8, zM, i10, if_false, dM]
      rw [em] at d10
      have hv : v2 = v := by
        have := congrArg (fun Z => mi Z 10) d10
        simpa only [mi_rs, mi_smi, if_true] using this
      have hRR : R2 = R1 := by
        funext k
        exact congrArg (fun Z => ma Z 0 k) d10
      refine ⟨fun _ => by rw [← hv]; exact u5 h10, fun h => absurd hc h, fun k hk h => ?_⟩
      have ht : t8 = t2 := by
        have hh : R1 3 = Int32.ofNat t2 := by rw [← hRR]; exact u2
        have h8 : t8 ≤ 10 := d5.2.1.1
        exact (ofN_inj (by omega) (by omega)).mp (d11.symm.trans hh)
      have h8 : t8 ≤ 10 := d5.2.1.1
      rw [d12 _ (by omega) (by omega), ← hRR] at h
      exact u4 k (by omega) (h.trans h9.symm)
    · have zM := mc0 hc
      have hb : hbw M (R' (44 + 5 * kp')) = 1 := by
        unfold hbw
        rw [if_pos h10, if_pos (b7.trans h9.symm)]
      rw [hb] at zM
      have dM := (drp_R (smi M 10 1) (bnR R' i) (k := kp') (by omega)).1
      have nR := bn_RB b6 (k := kp') (by omega) (Nat.le_refl kp') hi (by omega)
      obtain ⟨l1, l2, l3⟩ := lo_bn R' i (by omega)
      rw [show t - s' + kp' - 1 = t - s' - 1 + kp' by omega] at nR
      have g9 : mi (smi M 10 1) 9 = x := by rw [mi_smi, if_neg (by decide)]; exact h9
      have g10 : mi (smi M 10 1) 10 = 1 := by rw [mi_smi, if_pos rfl]
      obtain ⟨ex2, t2, R2, v2, u1, u2, u3, u4, u5, u6⟩ := L4m (t - s' - 1) q2 kp' (dw (bnR R' i) kp') (smi M 10 1) ex' (by omega) nR (by rw [g9]; exact noX _ l1)
      rw [smi_smi] at u1
      rw [g9] at u4
      have em : f_X7_closesDay_L4 (q2 + 1) (rs M R') ex' (Int32.ofNat kp') = (ex2, rs (smi M 10 v2) R2) := by
        rw [← u1]
        simp only [f_X7_closesDay_L4, ma_rs0, ixl, cc2, if_neg w2, nm_eq, p4, if_pos b8, zM, if_true, dM, Int32.add_zero]
      rw [em] at d10
      have hv : v2 = v := by
        have := congrArg (fun Z => mi Z 10) d10
        simpa only [mi_rs, mi_smi, if_true] using this
      have hRR : R2 = R1 := by
        funext k
        exact congrArg (fun Z => ma Z 0 k) d10
      refine ⟨fun h => absurd h hc, fun _ => by rw [← hv]; exact u6 g10, fun k hk h => ?_⟩
      have ht : t8 = t2 := by
        have hh : R1 3 = Int32.ofNat t2 := by rw [← hRR]; exact u2
        have h8 : t8 ≤ 10 := d5.2.1.1
        exact (ofN_inj (by omega) (by omega)).mp (d11.symm.trans hh)
      have h8 : t8 ≤ 10 := d5.2.1.1
      rw [d12 _ (by omega) (by omega), ← hRR] at h
      exact u4 k (by omega) h
  have fm := find_M (M := M) x hR.2.1.2.1 ht10 hu
  have hfm := fm.2.2 s' hm hx
  have hne := ne_m1 (m := s') (by omega)
  have h83 : R8 3 = Int32.ofNat t8 := d5.2.1.2.1
  have fm8 := find_M (M := smi M 10 v) x h83 d5.2.1.1 (bT_uq d5.2.1)
  have hf8 := fm8.2.1 key.2.2
  have em : f_X7_wouldBounce_L46 (n2 + 1 + 1) (rs M R) x = rs (smi M 10 v) R8 := by
    unfold f_X7_wouldBounce_L46
    rw [nm_eq, hfm, if_neg hne, nm_eq, d3]
    show f_X7_wouldBounce_L46 (n2 + 1) (rs (smi M 10 v) R8) x = _
    unfold f_X7_wouldBounce_L46
    rw [nm_eq, hf8, if_pos rfl]
  have oM : ok_X7_wouldBounce_L46 (n2 + 1 + 1) (rs M R) x := by
    unfold ok_X7_wouldBounce_L46
    refine ⟨fm.1, ?_⟩
    intro z hz
    rw [hz, hfm]
    refine ⟨fun h => absurd h hne, fun _ => ⟨d2, ?_⟩⟩
    intro z2 hz2
    rw [hz2, d3]
    show ok_X7_wouldBounce_L46 (n2 + 1) (rs (smi M 10 v) R8) x
    unfold ok_X7_wouldBounce_L46
    refine ⟨fm8.1, ?_⟩
    intro z3 hz3
    rw [hz3, hf8]
    exact ⟨fun _ => trivial, fun h => absurd rfl h⟩
  rw [hf]
  refine ⟨okB, b2, fc.1, ocv, oM, R8, v, em, ?_⟩
  by_cases hc : cov R' i (R' (47 + 5 * kp'))
  · exact Or.inr ⟨cv1 hc, key.1 hc⟩
  · exact Or.inl ⟨cv0 hc, key.2.1 hc⟩
theorem case_30 {u : Nat} {B : StB} {M : StM} (hI : Inv u B M) (hu : u < 512) (O : StO) (y1 : Int32) : okc_30 B M O y1 ∧ Inv (u + 1) (stB_30 B M O y1) (stM_30 B M O y1) := by
  have hN := fun v => Inv_15 hI hu v
  have hI' := hI
  obtain ⟨e, ty, he, hu2, ⟨n, t, hT, hR⟩, hS, hH, hE, hRd, hTt⟩ := hI
  have ht : t ≤ 10 := hR.2.1.1
  have huq := bT_uq hR.2.1
  obtain ⟨o1, q0, q1⟩ := reqT y1 hT huq
  have fm := find_M (M := M) (R := ma M 0) y1 hR.2.1.2.1 ht huq
  rw [rs_self] at fm
  have z0 : Int32.ofNat 0 = 0 := rfl
  unfold okc_30 stB_30 stM_30
  by_cases hex : ∃ m, m < t ∧ ma M 0 (44 + 5 * m) = y1
  · obtain ⟨m, hm, hx⟩ := hex
    have hfm := fm.2.2 m hm hx
    have hne := ne_m1 (m := m) (by omega)
    have hxx : ix (Int32.ofNat m) = m := ix_o (by omega)
    have hv : vp_in (Int32.ofNat m) 10 := in_o (by omega) (by omega)
    obtain ⟨k1, k2, k3, k4, k5, k6, k7, k8⟩ := hR.2.1.2.2.1 m hm
    have hSS := hR.2.2
    unfold bS at hSS
    have vd : (ma M 0 (48 + 5 * m) - ma M 0 0).toInt = (ma M 0 (48 + 5 * m)).toInt - (ma M 0 0).toInt := i32_sub (by omega) (by omega)
    obtain ⟨d, hd, ed⟩ := of_rng (x := ma M 0 (48 + 5 * m) - ma M 0 0) (n := 61) (by omega) (by omega)
    have edI : (d : Int) = (ma M 0 (48 + 5 * m)).toInt - (ma M 0 0).toInt := by
      rw [← vd, ed, ofN_toInt (by omega)]
    obtain ⟨c1, c2, c3⟩ := copy_C hT hR.1 (p := 16) (by omega)
    have F := F_copies_M0_M2 (smi M 15 0) 0 0 (by omega) (by omega)
    rw [z0] at F
    generalize hC : f_X3_copyFrom 16 0 B = C at c1 c2 c3
    have tv : ba C 11 m = ma M 0 (48 + 5 * m) := ((c2.2 11 m (by omega)).2.2).trans (Ti_q hT hm).2.2.2.2
    have tb : bi C 0 3 = ma M 0 0 := ((c2.2 0 3 (by omega)).1).trans (Ti_s hT).1
    have q0' : ma (mcp (smi M 15 0) 0 0 2 0 124) 0 = ma M 0 := by
      funext k
      rw [ma_mcp, if_neg (by omega), ma_smi]
    have q2 : ∀ k, k < 124 → ma (mcp (smi M 15 0) 0 0 2 0 124) 2 k = ma M 0 k := fun k hk => by
      rw [ma_mcp, if_pos (by omega), ma_smi]
      exact congrArg (ma M 0) (by omega)
    have qq : ∀ q k, 3 ≤ q → ma (mcp (smi M 15 0) 0 0 2 0 124) q k = ma M q k := fun q k hq => by
      rw [ma_mcp, if_neg (by omega), ma_smi]
    have qm : ∀ j, mi (mcp (smi M 15 0) 0 0 2 0 124) j = mi (smi M 15 0) j := fun j => rfl
    generalize mcp (smi M 15 0) 0 0 2 0 124 = N at F q0' q2 qq qm
    have eN : rs (smi (smi N 9 y1) 10 0) (ma M 0) = smi (smi N 9 y1) 10 0 := by
      have : ma (smi (smi N 9 y1) 10 0) 0 = ma M 0 := q0'
      rw [← this, rs_self]
    have g9 : mi (smi (smi N 9 y1) 10 0) 9 = y1 := by rw [mi_smi, if_neg (by decide), mi_smi, if_pos rfl]
    have g10 : mi (smi (smi N 9 y1) 10 0) 10 = 0 := by rw [mi_smi, if_pos rfl]
    have hfu : 100 < fu := by unfold fu; omega
    obtain ⟨r1, r2, t', R', n2', r3, r4, r5, ⟨m', r6, r7, r8⟩, r9, r10⟩ := L_wb y1 d (by omega) d fu fu 0 e (60 * e) t C (ma M 0) (smi (smi N 9 y1) 10 0) 0 (by omega) (by omega) (by omega) (by omega) c3 hR ⟨m, hm, hx, by omega⟩ g9 g10
    clear hfu
    rw [eN] at r9 r10
    rw [z0] at r1 r2 r4
    have ep : f_X3_passDays 16 C (Int32.ofNat d) = ((f_X3_passDays_L4 fu 16 C (Int32.ofNat d) 0 0).1, (f_X3_passDays_L4 fu 16 C (Int32.ofNat d) 0 0).2) := by
      unfold f_X3_passDays
      rw [nm_eq]
    have op : ok_X3_passDays 16 C (Int32.ofNat d) := r1
    generalize (f_X3_passDays_L4 fu 16 C (Int32.ofNat d) 0 0).2 = D at ep r2 r4
    obtain ⟨w1, w2, w3, w4, w5, R8, v, w6, w7⟩ := wb_last r4 r5 (by omega) r6 r7 r8 g9 g10 n2' r3
    rw [w6] at r9
    have oL := r10 w5
    have F2 := F_copies_M2_M0 (smi (rs (smi (smi (smi N 9 y1) 10 0) 10 v) R8) 9 (-1)) 0 0 (by omega) (by omega)
    rw [z0] at F2
    have fm10 : mi (mcp (smi (rs (smi (smi (smi N 9 y1) 10 0) 10 v) R8) 9 (-1)) 2 0 0 0 124) 10 = v := by
      rw [mi_mcp, mi_smi, if_neg (by decide), mi_rs, mi_smi, if_pos rfl]
    have em : f_X7_wouldBounce M y1 = (v, mcp (smi (rs (smi (smi (smi N 9 y1) 10 0) 10 v) R8) 9 (-1)) 2 0 0 0 124) := by
      unfold f_X7_wouldBounce
      rw [nm_eq, hfm, if_neg hne]
      unfold f_X7_wouldBounce_J15
      rw [nm_eq, goes_1]
      show (if (1 : Int32) = 0 then _ else nm (f_X7_copies_M0_M2 (smi M 15 0) 0 0) _) = _
      rw [if_neg (by decide), F.1, nm_eq, nm_eq, nm_eq, r9, nm_eq, nm_eq, F2.1, nm_eq, fm10]
    have hv01 : v = 0 ∨ v = 1 := by
      rcases w7 with h | h
      · exact Or.inr h.2
      · exact Or.inl h.2
    have om : ok_X7_wouldBounce M y1 := by
      refine ⟨fm.1, ?_⟩
      intro z hz
      rw [hz, hfm]
      refine ⟨fun h => absurd h hne, fun _ => ⟨okgoes (Or.inr rfl), ?_⟩⟩
      intro z2 hz2
      rw [hz2, goes_1]
      refine ⟨fun h9 => absurd (show (1 : Int32) = 0 from h9) (by decide), fun _ => ?_⟩
      show ok_X7_copies_M0_M2 (smi M 15 0) 0 0 ∧ _
      refine ⟨F.2, ?_⟩
      intro z3 hz3
      have hz3' : z3 = N := hz3.trans F.1
      rw [hz3']
      intro z4 hz4
      rw [hz4]
      intro z5 hz5
      rw [hz5]
      refine ⟨oL, ?_⟩
      intro z6 hz6
      rw [hz6, r9]
      intro z7 hz7
      rw [hz7]
      refine ⟨F2.2, ?_⟩
      intro z8 hz8
      rw [hz8, F2.1, fm10]
      exact nar01 hv01
    have hfin : Inv (u + 1) (f_X3_settleDueBefore 16 D y1) (mcp (smi (rs (smi (smi (smi N 9 y1) 10 0) 10 v) R8) 9 (-1)) 2 0 0 0 124) := by
      refine Inv_F hI' hu (lo := 16) (hi := 32) (Fg_t (Fg_t c2 r2) w2) (by omega) (fun k hk => ?_) (fun q k hq => ?_) (fun j h1 h2 => ?_)
      · rw [ma_mcp, if_pos (by omega), ma_smi, ma_rs _ _ (by decide), ma_smi, ma_smi, ma_smi, q2 _ (by omega)]
        exact congrArg (ma M 0) (by omega)
      · rw [ma_mcp, if_neg (by omega), ma_smi, ma_rs _ _ (by omega), ma_smi, ma_smi, ma_smi, qq q k hq]
      · by_cases hj : j = 9
        · subst hj
          rw [mi_mcp, mi_smi, if_pos rfl]
          exact hE.2.2.2.2.symm
        · rw [mi_mcp, mi_smi, if_neg hj, mi_rs, mi_smi, if_neg h2, mi_smi, if_neg h2, mi_smi, if_neg hj, qm, mi_smi, if_neg h1]
    have h15 : mi (mcp (smi (rs (smi (smi (smi N 9 y1) 10 0) 10 v) R8) 9 (-1)) 2 0 0 0 124) 15 = 0 := by
      rw [mi_mcp, mi_smi, if_neg (by decide), mi_rs, mi_smi, if_neg (by decide), mi_smi, if_neg (by decide), mi_smi, if_neg (by decide), qm, mi_smi, if_pos rfl]
    have ef : f_X6_wouldBounce B y1 = (0, v, f_X3_settleDueBefore 16 D y1) := by
      unfold f_X6_wouldBounce
      rw [nm_eq, q1 m hm hx]
      show (if 0 = 0 then nm (f_X3_copyFrom 16 0 B) fun B4 => nm (f_X3_passDays 16 B4 (ba B4 11 (ix (Int32.ofNat m)) - bi B4 0 3)) _ else _) = _
      rw [if_pos rfl, hC, nm_eq, hxx, tv, tb, ed, ep, nm_eq, nm_eq, nm_eq, nm_eq]
      rcases w7 with ⟨h1, h2⟩ | ⟨h1, h2⟩
      · rw [show f_X3_covers 16 (f_X3_settleDueBefore 16 D y1) (f_X5_find 22 (f_X3_settleDueBefore 16 D y1) y1) = 0 from h1, if_pos rfl, h2]
      · rw [show f_X3_covers 16 (f_X3_settleDueBefore 16 D y1) (f_X5_find 22 (f_X3_settleDueBefore 16 D y1) y1) = 1 from h1, if_neg (by decide), h2]
    have ok6 : ok_X6_wouldBounce B y1 := by
      refine ⟨o1, ?_⟩
      intro z hz _
      rw [hz, q1 m hm hx]
      show ok_X3_copyFrom 16 0 B ∧ _
      refine ⟨c1, ?_⟩
      intro z2 hz2
      have hz2' : z2 = C := hz2.trans hC
      rw [hz2']
      refine ⟨hv, ?_⟩
      show ok_X3_passDays 16 C (ba C 11 (ix (Int32.ofNat m)) - bi C 0 3) ∧ ∀ z7 : Int32 × StB, z7 = f_X3_passDays 16 C (ba C 11 (ix (Int32.ofNat m)) - bi C 0 3) → _
      rw [hxx, tv, tb, ed]
      refine ⟨op, ?_⟩
      intro z3 hz3
      rw [hz3, ep]
      refine ⟨w1, ?_⟩
      intro z4 hz4
      rw [hz4]
      refine ⟨w3, ?_⟩
      intro z5 hz5
      rw [hz5]
      exact w4
    rw [ef, em]
    refine ⟨⟨ok6, Or.inl rfl, om, h15, fun _ => rfl⟩, hfin⟩
  · have hno : ∀ j, j < t → ma M 0 (44 + 5 * j) ≠ y1 := fun j hj h => hex ⟨j, hj, h⟩
    have hfm := fm.2.1 hno
    have ef : f_X6_wouldBounce B y1 = (5, 0, B) := by
      unfold f_X6_wouldBounce
      rw [nm_eq, q0 hno]
      rfl
    have em : f_X7_wouldBounce M y1 = (0, smi M 15 1) := by
      unfold f_X7_wouldBounce
      rw [nm_eq, hfm, if_pos rfl]
      unfold f_X7_wouldBounce_J15
      rw [nm_eq, goes_0]
      rfl
    have om : ok_X7_wouldBounce M y1 := by
      refine ⟨fm.1, ?_⟩
      intro z hz
      rw [hz, hfm]
      refine ⟨fun _ => ⟨okgoes (Or.inl rfl), ?_⟩, fun h => absurd rfl h⟩
      intro z2 hz2
      rw [hz2, goes_0]
      exact ⟨fun _ => trivial, fun h9 => absurd rfl h9⟩
    rw [ef, em]
    refine ⟨⟨⟨o1, ?_⟩, Or.inr rfl, om, rfl, fun h => absurd (show (1 : Int32) = 0 from h) (by decide)⟩, hN 1⟩
    intro z hz h0
    rw [hz, q0 hno] at h0
    exact absurd (show (5 : Nat) = 0 from h0) (by decide)
