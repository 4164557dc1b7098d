/-! would it bounce, as days say it -/
theorem add_ids (p : Nat) (C : StB) (k a w : Int32) (j : Nat) : ba (f_X2_add (p + 12) C k a w) (p + 7) j = ba C (p + 7) j := by
  unfold f_X2_add
  split
  · simp only [nm_eq, ba_sbi, ba_sba]
    rw [if_neg (by omega), if_neg (by omega), if_neg (by omega)]
  · rfl
theorem col_ids (p : Nat) (C : StB) (k a w : Int32) (j : Nat) : ba (f_X3_collect p C k a w) (p + 7) j = ba C (p + 7) j := by
  unfold f_X3_collect
  simp only [nm_eq]
  rw [add_ids]
  simp only [ba_sbl, ba_sbi, ba_sba]
  rw [if_neg (by omega)]
theorem set_ids (p : Nat) (C : StB) (a : Int32) (j : Nat) : ba (f_X3_settle p C a).2 (p + 7) j = ba C (p + 7) j := by
  unfold f_X3_settle
  simp only [nm_eq]
  split
  · show ba (f_X3_collect _ _ _ _ _) (p + 7) j = _
    rw [col_ids, ba_sbi]
  · show ba (f_X2_add _ _ _ _ _) (p + 7) j = _
    rw [add_ids]
    simp only [ba_sbl, ba_sba]
    rw [if_neg (by omega), if_neg (by omega), if_neg (by omega)]
theorem run_add (n : Nat) : ∀ (a b t : Nat) (R : Nat → Int32), (run (a + b) n t R).1 = (run a n t R).1 ++ (run b n (run a n t R).2.1 (run a n t R).2.2).1 ∧ (run (a + b) n t R).2 = (run b n (run a n t R).2.1 (run a n t R).2.2).2
  | 0, b, t, R => by
    rw [Nat.zero_add]
    exact ⟨rfl, rfl⟩
  | a + 1, b, t, R => by
    obtain ⟨h1, h2⟩ := run_add n a b (stl t 0 R).2.1 (dayR n t R)
    rw [show a + 1 + b = a + b + 1 by omega]
    refine ⟨?_, h2⟩
    show (stl t 0 R).1 ++ (run (a + b) n (stl t 0 R).2.1 (dayR n t R)).1 = ((stl t 0 R).1 ++ (run a n (stl t 0 R).2.1 (dayR n t R)).1) ++ _
    rw [h1, List.append_assoc]
    rfl
theorem S_bef {e D n p : Nat} (x : Int32) : ∀ (g n1 s kp c : Nat) (B : StB) (R : Nat → Int32), kp + g < c - s + kp → s ≤ c → g < n1 → Ti 0 n s kp c B p R → RB e D n (c - s + kp) kp 0 R → R (44 + 5 * (kp + g)) = x → R (48 + 5 * (kp + g)) = R 0 → ok_X3_settleDueBefore_L2 n1 p B x (Int32.ofNat s) ∧ Fr p B (f_X3_settleDueBefore_L2 n1 p B x (Int32.ofNat s)) ∧ ∃ s' kp' R' pre, s' < c ∧ Ti 0 n s' kp' c (f_X3_settleDueBefore_L2 n1 p B x (Int32.ofNat s)) p R' ∧ RB e D n (c - s' + kp') kp' 0 R' ∧ R' (44 + 5 * kp') = x ∧ R' (48 + 5 * kp') = R' 0 ∧ (stl (c - s) kp R).1 = pre ++ (stl (c - s') kp' R').1 ∧ (∀ k, ba (f_X3_settleDueBefore_L2 n1 p B x (Int32.ofNat s)) (p + 7) k = ba B (p + 7) k) ∧ s' = s + g := by
  intro g
  induction g with
  | zero =>
    intro n1 s kp c B R hk hs h1 hT hR hx hdue
    obtain ⟨n1, rfl⟩ : ∃ q, n1 = q + 1 := ⟨n1 - 1, by omega⟩
    obtain ⟨cc1, cc2, cc3, cc4, cc5, cc6, cc7⟩ := Ti_c hT
    rw [Nat.add_zero] at hx hdue
    have w1 : ¬ Int32.ofNat c ≤ Int32.ofNat s := by
      rw [le_ofN (by omega) (by omega)]
      omega
    have hxs : ix (Int32.ofNat s) = s := ix_o (by omega)
    have hv : vp_in (Int32.ofNat s) 10 := in_o (by omega) (by omega)
    have tp := Ti_p hT (k := 0) (by omega)
    simp only [Nat.add_zero] at tp
    have hle : x ≤ ba B (p + 7) s := by
      rw [tp.1, hx, i32_le]
      exact Int.le_refl _
    have ef : f_X3_settleDueBefore_L2 (n1 + 1) p B x (Int32.ofNat s) = B := by
      simp only [f_X3_settleDueBefore_L2, cc1, if_neg w1, hxs, if_pos hle]
    rw [ef]
    refine ⟨?_, Fr_r p B, s, kp, R, [], by omega, hT, hR, hx, hdue, rfl, fun _ => rfl, by omega⟩
    unfold ok_X3_settleDueBefore_L2
    rw [cc1, hxs]
    exact ⟨fun _ => trivial, fun _ => ⟨hv, fun _ => trivial, fun h => absurd hle h⟩⟩
  | succ g ih =>
    intro n1 s kp c B R hk hs h1 hT hR hx hdue
    obtain ⟨n1, rfl⟩ : ∃ q, n1 = q + 1 := ⟨n1 - 1, by omega⟩
    obtain ⟨cc1, cc2, cc3, cc4, cc5, cc6, cc7⟩ := Ti_c hT
    have hn : n ≤ 8 := hR.1.1
    have ht10 : c - s + kp ≤ 10 := hR.2.1.1
    have w1 : ¬ Int32.ofNat c ≤ Int32.ofNat s := by
      rw [le_ofN (by omega) (by omega)]
      omega
    have hxs : ix (Int32.ofNat s) = s := ix_o (by omega)
    have hv : vp_in (Int32.ofNat s) 10 := in_o (by omega) (by omega)
    have tp := Ti_p hT (k := 0) (by omega)
    simp only [Nat.add_zero] at tp
    have s0 := (Ti_s hT).1
    have hlt : (R (44 + 5 * kp)).toInt < x.toInt := by
      rw [← hx]
      exact hR.2.1.2.2.2.2 kp (kp + (g + 1)) (by omega) (by omega)
    have hle : ¬ x ≤ ba B (p + 7) s := by
      rw [tp.1, i32_le]
      omega
    have ecs : c - s = c - (s + 1) + 1 := by omega
    obtain ⟨⟨i, hi, e1⟩, ⟨j, hj, e2⟩, y1, y2, d1, d2, id1, id2⟩ := hR.2.1.2.2.1 kp (by omega)
    have eI : sI R kp = i := sI_eq e1 (by omega)
    have eJ : sJ R kp = j := sJ_eq e2 (by omega)
    by_cases hd : R (48 + 5 * kp) = R 0
    · obtain ⟨os, sc1, sc0, sF⟩ := set_C hT hR hi hj (by omega) e1 e2 rfl y1 y2 (by omega)
      have step : ∃ X b, Ti 0 n s kp c (f_X3_settle p B (Int32.ofNat s)).2 p X ∧ RB e D n (c - s + kp - 1) kp 0 (dw X kp) ∧ (∀ q, 44 ≤ q → q < 94 → X q = R q) ∧ X 0 = R 0 ∧ (stl (c - (s + 1) + 1) kp R).1 = (R (44 + 5 * kp), b) :: (stl (c - (s + 1)) kp (dw X kp)).1 := by
        by_cases hc : R (13 + 4 * i) - R (47 + 5 * kp) < -R (14 + 4 * i)
        · obtain ⟨z1, zT⟩ := sc0 (fun q => q hc)
          have nR := bn_RB hR (k := kp) (by omega) (Nat.le_refl kp) hi (by omega)
          obtain ⟨l1, l2, l3⟩ := lo_bn R i (by omega)
          exact ⟨_, false, zT, nR, l1, l2, by simp only [stl, if_pos hd, eI, if_pos hc]⟩
        · obtain ⟨z1, zT⟩ := sc1 hc
          have nR := mv_RB hR (k := kp) (by omega) (Nat.le_refl kp) hi hj y1 y2 hc (by omega)
          obtain ⟨l1, l2, l3⟩ := lo_mv R i j (R (47 + 5 * kp)) (by omega) (by omega)
          exact ⟨_, true, zT, nR, l1, l2, by simp only [stl, if_pos hd, eI, eJ, if_neg hc]⟩
      obtain ⟨X, b, zT, nR, l1, l2, em⟩ := step
      have nT := Ti_drop zT (by omega)
      have d0 : dw X kp 0 = R 0 := by
        simp only [dw]
        rw [if_neg (by omega), if_neg (by omega), l2]
      rw [show c - s + kp - 1 = c - (s + 1) + kp by omega] at nR
      obtain ⟨r1, r2, s', kp', R', pre, r3, r5, r6, r7, r8, r9, r11, r12⟩ := ih n1 (s + 1) kp c (f_X3_settle p B (Int32.ofNat s)).2 (dw X kp) (by omega) (by omega) (by omega) nT nR (by
        simp only [dw]
        rw [if_neg (by omega), if_pos (by omega), l1 _ (by omega) (by omega), ← hx]
        exact congrArg R (by omega)) (by
        rw [d0, ← hdue]
        simp only [dw]
        rw [if_neg (by omega), if_pos (by omega), l1 _ (by omega) (by omega)]
        exact congrArg R (by omega))
      have ef : f_X3_settleDueBefore_L2 (n1 + 1) p B x (Int32.ofNat s) = f_X3_settleDueBefore_L2 n1 p (f_X3_settle p B (Int32.ofNat s)).2 x (Int32.ofNat (s + 1)) := by
        simp only [f_X3_settleDueBefore_L2, cc1, if_neg w1, hxs, if_neg hle, tp.2.2.2.2, s0, if_pos hd, nm_eq, oad1]
      have hids : ∀ k, ba (f_X3_settle p B (Int32.ofNat s)).2 (p + 7) k = ba B (p + 7) k := fun k => set_ids p B _ k
      rw [ef]
      refine ⟨?_, Fr_t sF r2, s', kp', R', (R (44 + 5 * kp), b) :: pre, r3, r5, r6, r7, r8, ?_, fun k => (r11 k).trans (hids k), by omega⟩
      · unfold ok_X3_settleDueBefore_L2
        rw [cc1, hxs]
        refine ⟨fun _ => trivial, fun _ => ⟨hv, fun h => absurd h hle, fun _ => ⟨hv, fun _ => ⟨os, ?_⟩, fun h => absurd (by rw [tp.2.2.2.2, s0]; exact hd) h⟩⟩⟩
        intro z hz
        rw [hz, oad1]
        exact r1
      · rw [ecs, em, r9]
        rfl
    · have hdd : (R 0).toInt < (R (48 + 5 * kp)).toInt := by
        rw [i32_inj] at hd
        omega
      have nT := Ti_stay hT (by omega)
      have nR : RB e D n (c - (s + 1) + (kp + 1)) (kp + 1) 0 R := by
        rw [show c - (s + 1) + (kp + 1) = c - s + kp by omega]
        refine RB_m hR (fun k k1 k2 k3 => ?_)
        have : k = kp := by omega
        rw [this]
        exact hdd
      obtain ⟨r1, r2, s', kp', R', pre, r3, r5, r6, r7, r8, r9, r11, r12⟩ := ih n1 (s + 1) (kp + 1) c B R (by omega) (by omega) (by omega) nT nR (by rw [show kp + 1 + g = kp + (g + 1) by omega]; exact hx) (by rw [show kp + 1 + g = kp + (g + 1) by omega]; exact hdue)
      have ef : f_X3_settleDueBefore_L2 (n1 + 1) p B x (Int32.ofNat s) = f_X3_settleDueBefore_L2 n1 p B x (Int32.ofNat (s + 1)) := by
        simp only [f_X3_settleDueBefore_L2, cc1, if_neg w1, hxs, if_neg hle, tp.2.2.2.2, s0, if_neg hd, oad1]
      rw [ef]
      refine ⟨?_, r2, s', kp', R', pre, r3, r5, r6, r7, r8, ?_, r11, by omega⟩
      · unfold ok_X3_settleDueBefore_L2
        rw [cc1, hxs]
        refine ⟨fun _ => trivial, fun _ => ⟨hv, fun h => absurd h hle, fun _ => ⟨hv, fun h => absurd (by rw [tp.2.2.2.2, s0] at h; exact h) hd, fun _ => ?_⟩⟩⟩
        rw [oad1]
        exact r1
      · rw [ecs]
        simp only [stl, if_neg hd]
        exact r9
/-- the last day: what is due, x bounces or moves -/
theorem S_last {e D n t p m : Nat} {B : StB} {R : Nat → Int32} {x : Int32} (hT : Ti 0 n 0 0 t B p R) (hR : RB e D n t 0 0 R) (hm : m < t) (hx : R (44 + 5 * m) = x) (hdue : R (48 + 5 * m) = R 0) : ok_X3_settleDueBefore p B x ∧ Fr p B (f_X3_settleDueBefore p B x) ∧ ok_X5_find (p + 6) (f_X3_settleDueBefore p B x) x ∧ ok_X3_covers p (f_X3_settleDueBefore p B x) (f_X5_find (p + 6) (f_X3_settleDueBefore p B x) x) ∧ ∃ b : Bool, f_X3_covers p (f_X3_settleDueBefore p B x) (f_X5_find (p + 6) (f_X3_settleDueBefore p B x) x) = (if b then 1 else 0) ∧ (x, b) ∈ (stl t 0 R).1 := by
  have ht10 : t ≤ 10 := hR.2.1.1
  have hn : n ≤ 8 := hR.1.1
  have hu := bT_uq hR.2.1
  have z0 : Int32.ofNat 0 = 0 := rfl
  have hfu : 12 < fu := by unfold fu; omega
  obtain ⟨b1, b2, s', kp', R', pre, b3, b5, b6, b7, b8, b9, b11, b12⟩ := S_bef (e := e) (D := D) x m fu 0 0 t B R (by omega) (by omega) (by omega) hT (by simpa only [Nat.sub_zero, Nat.add_zero] using hR) (by rw [Nat.zero_add]; exact hx) (by rw [Nat.zero_add]; exact hdue)
  rw [z0] at b1 b2 b5 b11
  have eB : f_X3_settleDueBefore p B x = f_X3_settleDueBefore_L2 fu p B x 0 := by
    unfold f_X3_settleDueBefore
    rw [nm_eq]
  rw [← eB] at b2 b5 b11
  have okB : ok_X3_settleDueBefore p B x := b1
  have hs : s' = m := by omega
  subst hs
  obtain ⟨cc1, cc2, cc3, cc4, cc5, cc6, cc7⟩ := Ti_c b5
  have fc := L_findC (f_X3_settleDueBefore p B x) (p + 6) x t cc1 ht10 fu 0 (by omega) (by omega)
  clear hfu
  have ids : ∀ k, k < t → ba (f_X3_settleDueBefore p B x) (p + 6 + 1) k = R (44 + 5 * k) := fun k hk => (b11 k).trans (Ti_q hT hk).1
  have hf : f_X5_find (p + 6) (f_X3_settleDueBefore p B x) x = Int32.ofNat s' := fc.2.2 s' (Nat.zero_le _) hm (by rw [ids s' hm]; exact hx) (fun j hj h => hu j s' hj hm (by rw [ids j hj] at h; exact h.trans hx.symm))
  obtain ⟨⟨i, hi, e1⟩, ⟨j, hj, e2⟩, y1, y2, dd1, dd2, id1, id2⟩ := b6.2.1.2.2.1 kp' (by omega)
  have eI : sI R' kp' = i := sI_eq e1 (by omega)
  have eJ : sJ R' kp' = j := sJ_eq e2 (by omega)
  have bb := bA_at b6.1 hi
  have hSS := b6.2.2
  unfold bS at hSS
  have hbal : (R' (13 + 4 * i)).toInt ≤ 100000000 := by
    have b8' := bb.2.2.2.2.2.2.2
    rw [if_neg (by omega)] at b8'
    omega
  obtain ⟨ocv, cv1, cv0⟩ := cov_C (m := 0) b5 b6.1 hi hbal (by omega) e1 rfl y1 y2
  rw [hf]
  refine ⟨okB, b2, fc.1, ocv, ?_⟩
  rw [Nat.sub_zero] at b9
  rw [b9, show t - s' = t - s' - 1 + 1 by omega]
  by_cases hc : R' (13 + 4 * i) - R' (47 + 5 * kp') < -R' (14 + 4 * i)
  · refine ⟨false, cv0 (fun q => q hc), List.mem_append_right _ ?_⟩
    simp only [stl, if_pos b8, eI, if_pos hc, b7]
    exact List.mem_cons_self
  · refine ⟨true, cv1 hc, List.mem_append_right _ ?_⟩
    simp only [stl, if_pos b8, eI, eJ, if_neg hc, b7]
    exact List.mem_cons_self
