/-! p51, the pure part: what a ledger does in days, as a function of its row -/
def sI (R : Nat → Int32) (k : Nat) : Nat := ix (R (45 + 5 * k))
def sJ (R : Nat → Int32) (k : Nat) : Nat := ix (R (46 + 5 * k))
/-- those transfers of g slots from kp on that are due today: each one's id and whether it is executed; then the number kept and the row -/
def stl : Nat → Nat → (Nat → Int32) → List (Int32 × Bool) × Nat × (Nat → Int32)
  | 0, kp, R => ([], kp, R)
  | g + 1, kp, R => if R (48 + 5 * kp) = R 0 then
      (if R (13 + 4 * sI R kp) - R (47 + 5 * kp) < -R (14 + 4 * sI R kp) then
        ((R (44 + 5 * kp), false) :: (stl g kp (dw (bnR R (sI R kp)) kp)).1, (stl g kp (dw (bnR R (sI R kp)) kp)).2)
      else ((R (44 + 5 * kp), true) :: (stl g kp (dw (mvR R (sI R kp) (sJ R kp) (R (47 + 5 * kp))) kp)).1, (stl g kp (dw (mvR R (sI R kp) (sJ R kp) (R (47 + 5 * kp))) kp)).2))
    else stl g (kp + 1) R
def cT (l : List (Int32 × Bool)) : Nat := (l.filter (fun z => z.2)).length
def cF (l : List (Int32 × Bool)) : Nat := (l.filter (fun z => !z.2)).length
theorem cT_t (x : Int32) (l : List (Int32 × Bool)) : cT ((x, true) :: l) = cT l + 1 := rfl
theorem cT_f (x : Int32) (l : List (Int32 × Bool)) : cT ((x, false) :: l) = cT l := rfl
theorem cF_t (x : Int32) (l : List (Int32 × Bool)) : cF ((x, true) :: l) = cF l := rfl
theorem cF_f (x : Int32) (l : List (Int32 × Bool)) : cF ((x, false) :: l) = cF l + 1 := rfl
theorem cT_app (l l2 : List (Int32 × Bool)) : cT (l ++ l2) = cT l + cT l2 := by simp [cT, List.filter_append]
theorem cF_app (l l2 : List (Int32 × Bool)) : cF (l ++ l2) = cF l + cF l2 := by simp [cF, List.filter_append]
theorem oN_s (ex : Int32) (a : Nat) : ex + 1 + Int32.ofNat a = ex + Int32.ofNat (a + 1) := by
  rw [Int32.ofNat_add, Int32.add_assoc, Int32.add_comm 1]
  rfl
theorem sI_eq {R : Nat → Int32} {k i : Nat} (h : R (45 + 5 * k) = Int32.ofNat i) (hi : i < 1000) : sI R k = i := by
  unfold sI
  rw [h]
  exact ix_o (by omega)
theorem sJ_eq {R : Nat → Int32} {k i : Nat} (h : R (46 + 5 * k) = Int32.ofNat i) (hi : i < 1000) : sJ R k = i := by
  unfold sJ
  rw [h]
  exact ix_o (by omega)
theorem S_set {e D n p : Nat} : ∀ (g n1 s kp c : Nat) (B : StB) (R : Nat → Int32) (ex : Int32), s + g = c → g < n1 → Ti kp n s kp c B p R → RB e D n (g + kp) kp 0 R → ok_X3_settleDue_L6 n1 p B ex (Int32.ofNat kp) (Int32.ofNat s) ∧ (f_X3_settleDue_L6 n1 p B ex (Int32.ofNat kp) (Int32.ofNat s)).1 = ex + Int32.ofNat (cT (stl g kp R).1) ∧ (f_X3_settleDue_L6 n1 p B ex (Int32.ofNat kp) (Int32.ofNat s)).2.1 = Int32.ofNat (stl g kp R).2.1 ∧ Ti (stl g kp R).2.1 n c (stl g kp R).2.1 c (f_X3_settleDue_L6 n1 p B ex (Int32.ofNat kp) (Int32.ofNat s)).2.2 p (stl g kp R).2.2 ∧ RB e D n (stl g kp R).2.1 (stl g kp R).2.1 0 (stl g kp R).2.2 ∧ Fr p B (f_X3_settleDue_L6 n1 p B ex (Int32.ofNat kp) (Int32.ofNat s)).2.2 := by
  intro g
  induction g with
  | zero =>
    intro n1 s kp c B R ex hs h1 hT hR
    obtain ⟨n1, rfl⟩ : ∃ q, n1 = q + 1 := ⟨n1 - 1, by omega⟩
    have hsc : c = s := by omega
    subst hsc
    obtain ⟨cc1, cc2, cc3, cc4, cc5, cc6, cc7⟩ := Ti_c hT
    have w1 : Int32.ofNat c ≤ Int32.ofNat c := (le_ofN (by omega) (by omega)).mpr (Nat.le_refl c)
    have ef : f_X3_settleDue_L6 (n1 + 1) p B ex (Int32.ofNat kp) (Int32.ofNat c) = (ex, Int32.ofNat kp, B) := by
      simp only [f_X3_settleDue_L6, cc1, if_pos w1]
    rw [ef]
    refine ⟨?_, ?_, rfl, hT, (by rw [Nat.zero_add] at hR; exact hR), Fr_r p B⟩
    · simp only [ok_X3_settleDue_L6, cc1]
      exact ⟨fun _ => trivial, fun h9 => absurd w1 h9⟩
    · show ex = ex + Int32.ofNat 0
      rw [show Int32.ofNat 0 = 0 from rfl, Int32.add_zero]
  | succ g ih =>
    intro n1 s kp c B R ex hs h1 hT hR
    obtain ⟨n1, rfl⟩ : ∃ q, n1 = q + 1 := ⟨n1 - 1, by omega⟩
    obtain ⟨cc1, cc2, cc3, cc4, cc5, cc6, cc7⟩ := Ti_c hT
    have hn : n ≤ 8 := hR.1.1
    have ht10 : g + 1 + kp ≤ 10 := hR.2.1.1
    have w1 : ¬ Int32.ofNat c ≤ Int32.ofNat s := by
      rw [le_ofN (by omega) (by omega)]
      omega
    have hx : ix (Int32.ofNat s) = s := ix_o (by omega)
    have hv : vp_in (Int32.ofNat s) 10 := in_o (by omega) (by omega)
    have tp := Ti_p hT (k := 0) (by omega)
    simp only [Nat.add_zero] at tp
    have t11 := tp.2.2.2.2
    have s0 := (Ti_s hT).1
    obtain ⟨⟨i, hi, e1⟩, ⟨j, hj, e2⟩, y1, y2, d1, d2, id1, id2⟩ := hR.2.1.2.2.1 kp (by omega)
    have eI : sI R kp = i := sI_eq e1 (by omega)
    have eJ : sJ R kp = j := sJ_eq e2 (by omega)
    by_cases hd : R (48 + 5 * kp) = R 0
    · obtain ⟨os, sc1, sc0, sF⟩ := set_C hT hR hi hj (by omega) e1 e2 rfl y1 y2 (by omega)
      by_cases hc : R (13 + 4 * i) - R (47 + 5 * kp) < -R (14 + 4 * i)
      · have es : stl (g + 1) kp R = ((R (44 + 5 * kp), false) :: (stl g kp (dw (bnR R i) kp)).1, (stl g kp (dw (bnR R i) kp)).2) := by
          simp only [stl, if_pos hd, eI, if_pos hc]
        rw [es]
        obtain ⟨z1, zT⟩ := sc0 (fun q => q hc)
        have nT := Ti_drop zT (by omega)
        have nR := bn_RB hR (k := kp) (by omega) (Nat.le_refl kp) hi (by omega)
        rw [show g + 1 + kp - 1 = g + kp by omega] at nR
        obtain ⟨r1, r2, r3, r5, r6, r7⟩ := ih n1 (s + 1) kp c (f_X3_settle p B (Int32.ofNat s)).2 (dw (bnR R i) kp) ex (by omega) (by omega) nT nR
        have ef : f_X3_settleDue_L6 (n1 + 1) p B ex (Int32.ofNat kp) (Int32.ofNat s) = f_X3_settleDue_L6 n1 p (f_X3_settle p B (Int32.ofNat s)).2 ex (Int32.ofNat kp) (Int32.ofNat (s + 1)) := by
          simp only [f_X3_settleDue_L6, cc1, if_neg w1, hx, t11, s0, if_pos hd, nm_eq, z1, if_true, oad1]
        rw [ef]
        refine ⟨?_, r2, r3, r5, r6, Fr_t sF r7⟩
        simp only [ok_X3_settleDue_L6, cc1, hx, t11, s0]
        refine ⟨fun _ => trivial, fun _ => ⟨hv, fun _ => ⟨os, ?_⟩, fun h9 => absurd hd h9⟩⟩
        rintro _ rfl
        rw [z1, oad1]
        exact ⟨fun _ => r1, fun h9 => absurd rfl h9⟩
      · have es : stl (g + 1) kp R = ((R (44 + 5 * kp), true) :: (stl g kp (dw (mvR R i j (R (47 + 5 * kp))) kp)).1, (stl g kp (dw (mvR R i j (R (47 + 5 * kp))) kp)).2) := by
          simp only [stl, if_pos hd, eI, eJ, if_neg hc]
        rw [es]
        have hc' : cov R i (R (47 + 5 * kp)) := hc
        obtain ⟨z1, zT⟩ := sc1 hc'
        have nT := Ti_drop zT (by omega)
        have nR := mv_RB hR (k := kp) (by omega) (Nat.le_refl kp) hi hj y1 y2 hc' (by omega)
        rw [show g + 1 + kp - 1 = g + kp by omega] at nR
        obtain ⟨r1, r2, r3, r5, r6, r7⟩ := ih n1 (s + 1) kp c (f_X3_settle p B (Int32.ofNat s)).2 (dw (mvR R i j (R (47 + 5 * kp))) kp) (ex + 1) (by omega) (by omega) nT nR
        have ef : f_X3_settleDue_L6 (n1 + 1) p B ex (Int32.ofNat kp) (Int32.ofNat s) = f_X3_settleDue_L6 n1 p (f_X3_settle p B (Int32.ofNat s)).2 (ex + 1) (Int32.ofNat kp) (Int32.ofNat (s + 1)) := by
          simp only [f_X3_settleDue_L6, cc1, if_neg w1, hx, t11, s0, if_pos hd, nm_eq, z1, i10, if_false, oad1]
        rw [ef]
        refine ⟨?_, ?_, r3, r5, r6, Fr_t sF r7⟩
        · simp only [ok_X3_settleDue_L6, cc1, hx, t11, s0]
          refine ⟨fun _ => trivial, fun _ => ⟨hv, fun _ => ⟨os, ?_⟩, fun h9 => absurd hd h9⟩⟩
          rintro _ rfl
          rw [z1, oad1]
          exact ⟨fun h9 => absurd h9 (by decide), fun _ => r1⟩
        · rw [r2, cT_t, oN_s]
    · have es : stl (g + 1) kp R = stl g (kp + 1) R := by
        simp only [stl, if_neg hd]
      rw [es]
      have hdd : (R 0).toInt < (R (48 + 5 * kp)).toInt := by
        rw [i32_inj] at hd
        omega
      obtain ⟨nT, oc, cF⟩ := Ti_copy hT (by omega)
      have nR : RB e D n (g + (kp + 1)) (kp + 1) 0 R := by
        rw [show g + (kp + 1) = g + 1 + kp by omega]
        refine RB_m hR (fun k k1 k2 k3 => ?_)
        have : k = kp := by omega
        rw [this]
        exact hdd
      obtain ⟨r1, r2, r3, r5, r6, r7⟩ := ih n1 (s + 1) (kp + 1) c (f_X5_copySlot (p + 6) (p + 6) B (Int32.ofNat s) (Int32.ofNat kp)) R ex (by omega) (by omega) nT nR
      have ef : f_X3_settleDue_L6 (n1 + 1) p B ex (Int32.ofNat kp) (Int32.ofNat s) = f_X3_settleDue_L6 n1 p (f_X5_copySlot (p + 6) (p + 6) B (Int32.ofNat s) (Int32.ofNat kp)) ex (Int32.ofNat (kp + 1)) (Int32.ofNat (s + 1)) := by
        simp only [f_X3_settleDue_L6, cc1, if_neg w1, hx, t11, s0, if_neg hd, nm_eq, oad1]
      rw [ef]
      refine ⟨?_, r2, r3, r5, r6, Fr_t cF r7⟩
      simp only [ok_X3_settleDue_L6, cc1, hx, t11, s0]
      refine ⟨fun _ => trivial, fun _ => ⟨hv, fun h9 => absurd h9 hd, fun _ => ⟨oc, ?_⟩⟩⟩
      rintro _ rfl
      rw [oad1, oad1]
      exact r1
def gainR : Nat → Nat → (Nat → Int32) → (Nat → Int32)
  | 0, _, R => R
  | g + 1, i, R => gainR g (i + 1) (gnR R i)
def forgR : Nat → Nat → (Nat → Int32) → (Nat → Int32)
  | 0, _, R => R
  | g + 1, i, R => forgR g (i + 1) (ur R (15 + 4 * i) 0)
theorem S_gain {e D n p f s kp c t m : Nat} : ∀ (g n1 i : Nat) (B : StB) (R : Nat → Int32), i + g = n → g < n1 → Ti f n s kp c B p R → RB e D n t m i R → ok_X3_payInterest_L2 n1 p B (Int32.ofNat i) ∧ Ti f n s kp c (f_X3_payInterest_L2 n1 p B (Int32.ofNat i)) p (gainR g i R) ∧ RB e D n t m n (gainR g i R) ∧ Fr p B (f_X3_payInterest_L2 n1 p B (Int32.ofNat i)) ∧ (∀ q, 44 ≤ q → q < 94 → gainR g i R q = R q) ∧ gainR g i R 0 = R 0 ∧ gainR g i R 3 = R 3 := by
  intro g
  induction g with
  | zero =>
    intro n1 i B R hi h1 hT hR
    obtain ⟨n1, rfl⟩ : ∃ q, n1 = q + 1 := ⟨n1 - 1, by omega⟩
    have hni : n = i := by omega
    subst hni
    obtain ⟨a1, a2, a3⟩ := Ti_n hT
    have w1 : Int32.ofNat n ≤ Int32.ofNat n := (le_ofN (by omega) (by omega)).mpr (Nat.le_refl n)
    have ef : f_X3_payInterest_L2 (n1 + 1) p B (Int32.ofNat n) = B := by
      simp only [f_X3_payInterest_L2, a1, if_pos w1]
    rw [ef]
    refine ⟨?_, hT, hR, Fr_r p B, fun _ _ _ => rfl, rfl, rfl⟩
    simp only [ok_X3_payInterest_L2, a1]
    exact ⟨fun _ => trivial, fun h9 => absurd w1 h9⟩
  | succ g ih =>
    intro n1 i B R hi h1 hT hR
    obtain ⟨n1, rfl⟩ : ∃ q, n1 = q + 1 := ⟨n1 - 1, by omega⟩
    obtain ⟨a1, a2, a3⟩ := Ti_n hT
    have w1 : ¬ Int32.ofNat n ≤ Int32.ofNat i := by
      rw [le_ofN (by omega) (by omega)]
      omega
    have hx : ix (Int32.ofNat i) = i := ix_o (by omega)
    have hv : vp_in (Int32.ofNat i) 8 := in_o (by omega) (by omega)
    obtain ⟨eE, oE⟩ := ern_C hT hR.1 (i := i) (by omega)
    obtain ⟨c1, c2, c3, c4, c5⟩ := gain_C hT hR (by omega)
    obtain ⟨l1, l2, l3⟩ := lo_gn R i (by omega)
    obtain ⟨r1, r4, r5, r6, r7, r8, r9⟩ := ih n1 (i + 1) (gnB p B i) (gnR R i) (by omega) (by omega) c1 c3
    have ef : f_X3_payInterest_L2 (n1 + 1) p B (Int32.ofNat i) = f_X3_payInterest_L2 n1 p (gnB p B i) (Int32.ofNat (i + 1)) := by
      unfold gnB
      by_cases hp : 0 ≤ f_X0_interest (p + 1) B (Int32.ofNat i)
      · simp only [f_X3_payInterest_L2, a1, if_neg w1, nm_eq, if_pos hp, hx, oad1]
      · simp only [f_X3_payInterest_L2, a1, if_neg w1, nm_eq, if_neg hp, oad1]
    rw [ef]
    refine ⟨?_, r4, r5, Fr_t c2 r6, fun q q1 q2 => (r7 q q1 q2).trans (l1 q q1 q2), r8.trans l2, r9.trans l3⟩
    simp only [ok_X3_payInterest_L2, a1]
    refine ⟨fun _ => trivial, fun _ => ⟨oE, ?_⟩⟩
    rintro _ rfl
    rw [eE, hx]
    unfold gnB at r1
    rw [eE] at r1
    refine ⟨fun hp => ⟨hv, hv, ?_⟩, fun hp => ⟨c5 hp, ?_⟩⟩
    · rintro _ rfl
      rintro _ rfl
      rintro _ rfl
      refine ⟨c4 hp, ?_⟩
      rintro _ rfl
      rw [if_pos hp] at r1
      rw [oad1]
      exact r1
    · rintro _ rfl
      rw [if_neg hp] at r1
      rw [oad1]
      exact r1
theorem S_forg {e D n p f s kp c t m a : Nat} : ∀ (g n1 i : Nat) (B : StB) (R : Nat → Int32), i + g = n → g < n1 → Ti f n s kp c B p R → RB e D n t m a R → ok_X0_forgetTouches_L2 n1 (p + 1) B (Int32.ofNat i) ∧ Ti f n s kp c (f_X0_forgetTouches_L2 n1 (p + 1) B (Int32.ofNat i)) p (forgR g i R) ∧ RB e D n t m a (forgR g i R) ∧ Fr p B (f_X0_forgetTouches_L2 n1 (p + 1) B (Int32.ofNat i)) ∧ (∀ q, (∀ j, j < 8 → q ≠ 15 + 4 * j) → forgR g i R q = R q) ∧ (∀ j, i ≤ j → j < n → forgR g i R (15 + 4 * j) = 0) ∧ (∀ j, j < i → forgR g i R (15 + 4 * j) = R (15 + 4 * j)) := by
  intro g
  induction g with
  | zero =>
    intro n1 i B R hi h1 hT hR
    obtain ⟨n1, rfl⟩ : ∃ q, n1 = q + 1 := ⟨n1 - 1, by omega⟩
    have hni : n = i := by omega
    subst hni
    obtain ⟨a1, a2, a3⟩ := Ti_n hT
    have w1 : Int32.ofNat n ≤ Int32.ofNat n := (le_ofN (by omega) (by omega)).mpr (Nat.le_refl n)
    have ef : f_X0_forgetTouches_L2 (n1 + 1) (p + 1) B (Int32.ofNat n) = B := by
      simp only [f_X0_forgetTouches_L2, a1, if_pos w1]
    rw [ef]
    refine ⟨?_, hT, hR, Fr_r p B, fun _ _ => rfl, fun j h1 h2 => by omega, fun _ _ => rfl⟩
    simp only [ok_X0_forgetTouches_L2, a1]
    exact ⟨fun _ => trivial, fun h9 => absurd w1 h9⟩
  | succ g ih =>
    intro n1 i B R hi h1 hT hR
    obtain ⟨n1, rfl⟩ : ∃ q, n1 = q + 1 := ⟨n1 - 1, by omega⟩
    obtain ⟨a1, a2, a3⟩ := Ti_n hT
    have w1 : ¬ Int32.ofNat n ≤ Int32.ofNat i := by
      rw [le_ofN (by omega) (by omega)]
      omega
    have hx : ix (Int32.ofNat i) = i := ix_o (by omega)
    have hv : vp_in (Int32.ofNat i) 8 := in_o (by omega) (by omega)
    have p5 : p + 1 + 4 = p + 5 := by omega
    have c1 := Ti_tch (v := 0) hT (i := i) (by omega) (Or.inl rfl)
    have c2 : Fr p B (sba B (p + 5) i (vp_nar .boolean 0)) := Fr_a (Fr_r p B) 5 _ _ (by decide)
    have b := bA_at hR.1 (i := i) (by omega)
    have c3 : RB e D n t m a (ur R (15 + 4 * i) 0) := by
      refine RB_acc hR (i := i) (by omega) (Nat.le_refl a) (ur_ne _ _ (by omega)) (ur_ne _ _ (by omega)) (ur_ne _ _ (by omega)) (ur_ne _ _ (by omega)) (fun j b1 b2 => ur_ne _ _ (by omega)) (fun j b1 b2 b3 b4 b5 => ur_ne _ _ b5) ?_ ?_
      · rw [ur_eq, ur_ne (j := 14 + 4 * i) _ _ (by omega), ur_ne (j := 13 + 4 * i) _ _ (by omega)]
        exact ⟨Or.inl rfl, b.2.2.2⟩
      · have s1 := hR.2.2
        unfold bS at s1 ⊢
        rw [ur_ne (j := 0) _ _ (by omega), ur_ne (j := 2) _ _ (by omega), ur_ne (j := 5) _ _ (by omega), ur_ne (j := 6) _ _ (by omega), ur_ne (j := 7) _ _ (by omega), ur_ne (j := 8) _ _ (by omega), ur_ne (j := 9) _ _ (by omega)]
        exact s1
    obtain ⟨r1, r4, r5, r6, r7, r8, r9⟩ := ih n1 (i + 1) (sba B (p + 5) i (vp_nar .boolean 0)) (ur R (15 + 4 * i) 0) (by omega) (by omega) c1 c3
    have ef : f_X0_forgetTouches_L2 (n1 + 1) (p + 1) B (Int32.ofNat i) = f_X0_forgetTouches_L2 n1 (p + 1) (sba B (p + 5) i (vp_nar .boolean 0)) (Int32.ofNat (i + 1)) := by
      simp only [f_X0_forgetTouches_L2, a1, if_neg w1, nm_eq, hx, p5, oad1]
    rw [ef]
    refine ⟨?_, r4, r5, Fr_t c2 r6, fun q q1 => (r7 q q1).trans (ur_ne _ _ (q1 i (by omega))), fun j j1 j2 => ?_, fun j j1 => (r9 j (by omega)).trans (ur_ne _ _ (by omega))⟩
    · simp only [ok_X0_forgetTouches_L2, a1]
      refine ⟨fun _ => trivial, fun _ => ⟨hv, ?_⟩⟩
      rintro _ rfl
      rw [hx, p5, oad1]
      exact r1
    · by_cases hji : j = i
      · subst hji
        exact (r9 j (by omega)).trans (ur_eq _ _ _)
      · exact r8 j (by omega) j2
/-- the row at the end of a day -/
def dayR (n t : Nat) (R : Nat → Int32) : Nat → Int32 := ur (forgR n 0 (gainR n 0 (stl t 0 R).2.2)) 0 (forgR n 0 (gainR n 0 (stl t 0 R).2.2) 0 + 1)
theorem S_day {e D n t p : Nat} {B : StB} {R : Nat → Int32} (hT : Ti 0 n 0 0 t B p R) (hR : RB e D n t 0 0 R) (hD : D + 1 ≤ 37000) : dayOk p B ∧ (f_X3_settleDue p B).1 = Int32.ofNat (cT (stl t 0 R).1) ∧ Ti 0 n 0 0 (stl t 0 R).2.1 (dayB p B) p (dayR n t R) ∧ RB e (D + 1) n (stl t 0 R).2.1 0 0 (dayR n t R) ∧ Fr p B (dayB p B) ∧ RB e D n (stl t 0 R).2.1 (stl t 0 R).2.1 0 (stl t 0 R).2.2 ∧ (∀ q, 44 ≤ q → q < 94 → dayR n t R q = (stl t 0 R).2.2 q) ∧ dayR n t R 0 = (stl t 0 R).2.2 0 + 1 ∧ (∀ j, j < n → dayR n t R (15 + 4 * j) = 0) := by
  have hn : n ≤ 8 := hR.1.1
  have ht : t ≤ 10 := hR.2.1.1
  have hfu : 12 < fu := by unfold fu; omega
  obtain ⟨r1, r2, r3, r5, r6, r7⟩ := S_set (e := e) (D := D) (n := n) (p := p) t fu 0 0 t B R 0 (by omega) (by omega) hT (by simpa only [Nat.add_zero] using hR)
  have z0 : Int32.ofNat 0 = 0 := rfl
  rw [z0] at r1 r2 r3 r5 r7
  obtain ⟨hT1, hF1⟩ := Ti_end r5
  rw [← r3] at hT1 hF1
  have eS : f_X3_settleDue p B = ((f_X3_settleDue_L6 fu p B 0 0 0).1, sbi (f_X3_settleDue_L6 fu p B 0 0 0).2.2 (p + 6) 0 (f_X3_settleDue_L6 fu p B 0 0 0).2.1) := by
    unfold f_X3_settleDue
    simp only [nm_eq]
  obtain ⟨g1, g4, g5, g6, g7, g8, g9⟩ := S_gain n fu 0 (sbi (f_X3_settleDue_L6 fu p B 0 0 0).2.2 (p + 6) 0 (f_X3_settleDue_L6 fu p B 0 0 0).2.1) (stl t 0 R).2.2 (by omega) (by omega) hT1 r6
  rw [z0] at g1 g4 g6
  obtain ⟨q1, q4, q5, q6, q7, q8, q9⟩ := S_forg n fu 0 (f_X3_payInterest_L2 fu p (sbi (f_X3_settleDue_L6 fu p B 0 0 0).2.2 (p + 6) 0 (f_X3_settleDue_L6 fu p B 0 0 0).2.1) 0) (gainR n 0 (stl t 0 R).2.2) (by omega) (by omega) g4 g5
  rw [z0] at q1 q4 q6
  clear hfu
  have eB : f_X0_forgetTouches (p + 1) (f_X3_payInterest p (f_X3_settleDue p B).2) = f_X0_forgetTouches_L2 fu (p + 1) (f_X3_payInterest_L2 fu p (sbi (f_X3_settleDue_L6 fu p B 0 0 0).2.2 (p + 6) 0 (f_X3_settleDue_L6 fu p B 0 0 0).2.1) 0) 0 := by
    rw [eS]
    unfold f_X0_forgetTouches f_X3_payInterest
    simp only [nm_eq]
  refine ⟨⟨r1, ?_, ?_⟩, ?_, ?_, RB_day q5 hD, ?_, r6, fun q h1 h2 => ?_, ?_, fun j hj => ?_⟩
  · rw [eS]
    exact g1
  · rw [eS]
    unfold f_X3_payInterest
    rw [nm_eq]
    exact q1
  · rw [eS]
    show (f_X3_settleDue_L6 fu p B 0 0 0).1 = _
    rw [r2, Int32.zero_add]
  · unfold dayB
    rw [eB]
    exact Ti_day 1 q4
  · unfold dayB
    rw [eB]
    exact Fr_i0 (Fr_t (Fr_t (Fr_t r7 hF1) g6) q6) _ _
  · unfold dayR
    rw [ur_ne _ _ (by omega), q7 _ (fun j hj => by omega), g7 _ h1 h2]
  · unfold dayR
    rw [ur_eq, q7 _ (fun j hj => by omega), g8]
  · unfold dayR
    rw [ur_ne _ _ (by omega), q8 j (by omega) hj]
/-- d days: what was due, what is left, the row -/
def run : Nat → Nat → Nat → (Nat → Int32) → List (Int32 × Bool) × Nat × (Nat → Int32)
  | 0, _, t, R => ([], t, R)
  | d + 1, n, t, R => ((stl t 0 R).1 ++ (run d n (stl t 0 R).2.1 (dayR n t R)).1, (run d n (stl t 0 R).2.1 (dayR n t R)).2)
theorem S_pass {e n p : Nat} (d : Nat) (hd : d ≤ 1000) : ∀ (g n1 j D t : Nat) (B : StB) (R : Nat → Int32) (ex : Int32), j + g = d → g < n1 → D + g ≤ 37000 → Ti 0 n 0 0 t B p R → RB e D n t 0 0 R → ok_X3_passDays_L4 n1 p B (Int32.ofNat d) ex (Int32.ofNat j) ∧ (f_X3_passDays_L4 n1 p B (Int32.ofNat d) ex (Int32.ofNat j)).1 = ex + Int32.ofNat (cT (run g n t R).1) ∧ Ti 0 n 0 0 (run g n t R).2.1 (f_X3_passDays_L4 n1 p B (Int32.ofNat d) ex (Int32.ofNat j)).2 p (run g n t R).2.2 ∧ RB e (D + g) n (run g n t R).2.1 0 0 (run g n t R).2.2 ∧ Fr p B (f_X3_passDays_L4 n1 p B (Int32.ofNat d) ex (Int32.ofNat j)).2 := by
  intro g
  induction g with
  | zero =>
    intro n1 j D t B R ex hj h1 hD hT hR
    obtain ⟨n1, rfl⟩ : ∃ q, n1 = q + 1 := ⟨n1 - 1, by omega⟩
    have hdj : d = j := by omega
    subst hdj
    have w1 : Int32.ofNat d ≤ Int32.ofNat d := (le_ofN (by omega) (by omega)).mpr (Nat.le_refl d)
    refine ⟨⟨fun _ => trivial, fun h9 => absurd w1 h9⟩, ?_, ?_, (by rw [Nat.add_zero]; exact hR), ?_⟩
    · simp only [f_X3_passDays_L4, if_pos w1]
      show ex = ex + Int32.ofNat 0
      rw [show Int32.ofNat 0 = 0 from rfl, Int32.add_zero]
    · simp only [f_X3_passDays_L4, if_pos w1]
      exact hT
    · simp only [f_X3_passDays_L4, if_pos w1]
      exact Fr_r p B
  | succ g ih =>
    intro n1 j D t B R ex hj h1 hD hT hR
    obtain ⟨n1, rfl⟩ : ∃ q, n1 = q + 1 := ⟨n1 - 1, by omega⟩
    have w1 : ¬ Int32.ofNat d ≤ Int32.ofNat j := by
      rw [le_ofN (by omega) (by omega)]
      omega
    obtain ⟨d1, d2, d4, d5, d6, -⟩ := S_day hT hR (by omega)
    obtain ⟨r1, r2, r6, r7, r8⟩ := ih n1 (j + 1) (D + 1) (stl t 0 R).2.1 (dayB p B) (dayR n t R) (ex + (f_X3_settleDue p B).1) (by omega) (by omega) (by omega) d4 d5
    have ef : f_X3_passDays_L4 (n1 + 1) p B (Int32.ofNat d) ex (Int32.ofNat j) = f_X3_passDays_L4 n1 p (dayB p B) (Int32.ofNat d) (ex + (f_X3_settleDue p B).1) (Int32.ofNat (j + 1)) := by
      simp only [f_X3_passDays_L4, if_neg w1, nm_eq, oad1]
      rfl
    refine ⟨?_, ?_, ?_, ?_, ?_⟩
    · refine ⟨fun _ => trivial, fun _ => ⟨d1.1, ?_⟩⟩
      rintro _ rfl
      rintro _ rfl
      refine ⟨d1.2.1, ?_⟩
      rintro _ rfl
      refine ⟨d1.2.2, ?_⟩
      rintro _ rfl
      rintro _ rfl
      rw [oad1]
      exact r1
    · rw [ef, r2, d2]
      show _ = ex + Int32.ofNat (cT ((stl t 0 R).1 ++ (run g n (stl t 0 R).2.1 (dayR n t R)).1))
      rw [cT_app, Int32.ofNat_add, Int32.add_assoc]
    · rw [ef]
      exact r6
    · rw [show D + (g + 1) = D + 1 + g by omega]
      exact r7
    · rw [ef]
      exact Fr_t d6 r8
