/-! p51: the accounts are right -/
theorem mean_cmp (a : Int64) (c : Int32) (h : ¬ c = 0) : FP.dcmp (FP.ddiv (FP.l2d a) (FP.i2d c)) (FP.ddiv (FP.l2d a) (FP.i2d c)) = some .eq := by
  have h1 := mean_nan a c h
  exact FP.Core.dcmp_self (fun h2 => by
    have h3 := (FP.Core.dIsNaN_iff _).mpr h2
    rw [h1] at h3
    exact absurd h3 (by decide))
theorem lgc0 (x : Int64) : lg_cmp x x = 0 := by
  unfold lg_cmp
  rw [if_neg (fun h => absurd (Int64.lt_iff_toInt_lt.mp h) (Int.lt_irrefl _)), if_pos rfl]
theorem asl_ord {n k : Nat} {R : Nat → Int32} (h : k + 1 < n) : (R (13 + 4 * asl n R (k + 1))).toInt < (R (13 + 4 * asl n R k)).toInt ∨ ((R (13 + 4 * asl n R k)).toInt = (R (13 + 4 * asl n R (k + 1))).toInt ∧ asl n R k < asl n R (k + 1)) := by
  obtain ⟨a1, a2⟩ := ps_ok (key := fun j => (R (13 + 4 * j)).toInt) (n := n) (m := k) (by omega)
  obtain ⟨b1, b2⟩ := ps_ok (key := fun j => (R (13 + 4 * j)).toInt) (n := n) (m := k + 1) h
  by_cases c : (R (13 + 4 * asl n R (k + 1))).toInt < (R (13 + 4 * asl n R k)).toInt ∨ ((R (13 + 4 * asl n R k)).toInt = (R (13 + 4 * asl n R (k + 1))).toInt ∧ asl n R k < asl n R (k + 1))
  · exact c
  · have hne : asl n R k ≠ asl n R (k + 1) := by
      intro h9
      have := ps_inj (key := fun j => (R (13 + 4 * j)).toInt) (show k < n by omega) h h9
      omega
    have := (rk_lt (fun j => (R (13 + 4 * j)).toInt) (asl n R (k + 1)) (asl n R k) (by show (R (13 + 4 * asl n R k)).toInt < (R (13 + 4 * asl n R (k + 1))).toInt ∨ ((R (13 + 4 * asl n R (k + 1))).toInt = (R (13 + 4 * asl n R k)).toInt ∧ asl n R (k + 1) < asl n R k); omega) n).2 b1
    have a2 : rk (fun j => (R (13 + 4 * j)).toInt) (asl n R k) n = k := a2
    have b2 : rk (fun j => (R (13 + 4 * j)).toInt) (asl n R (k + 1)) n = k + 1 := b2
    omega
theorem rank_L {n t : Nat} {B : StB} {R : Nat → Int32} (hT : Ti 0 n 0 0 t B 0 R) (a2 : Int64) : ∀ (g nf k : Nat), k + g = n → g < nf → Gz (fun v => v = 1) (ok_L_areAccountsRight_L288 nf B (Int32.ofNat n) a2 1 (Int32.ofNat k)) (f_L_areAccountsRight_L288 nf B (Int32.ofNat n) a2 1 (Int32.ofNat k)) := by
  have hn : n ≤ 8 := (Ti_n hT).2.2
  intro g
  induction g with
  | zero =>
    intro nf k hk hnf
    obtain ⟨nf, rfl⟩ : ∃ q, nf = q + 1 := ⟨nf - 1, by omega⟩
    have c : Int32.ofNat n ≤ Int32.ofNat k + 1 := by
      rw [oad1, le_ofN (by omega) (by omega)]
      omega
    unfold f_L_areAccountsRight_L288 ok_L_areAccountsRight_L288
    exact G_pos c ⟨trivial, rfl⟩
  | succ g ih =>
    intro nf k hk hnf
    obtain ⟨nf, rfl⟩ : ∃ q, nf = q + 1 := ⟨nf - 1, by omega⟩
    by_cases hl : k + 1 < n
    · have c : ¬ Int32.ofNat n ≤ Int32.ofNat k + 1 := by
        rw [oad1, le_ofN (by omega) (by omega)]
        omega
      obtain ⟨o1, f1, s1⟩ := aAt hT (m := k) (by omega)
      obtain ⟨o2, f2, s2⟩ := aAt hT (m := k + 1) hl
      rw [← oad1] at o2 f2
      have bl : ∀ i, i < n → ok_X6_balanceOf_n B (Int32.ofNat i) ∧ f_X6_balanceOf_n B (Int32.ofNat i) = R (13 + 4 * i) := by
        intro i hi
        have xi : ix (Int32.ofNat i) = i := ix_o (by omega)
        refine ⟨⟨reqAn hT hi, in_o (by omega) (by omega)⟩, ?_⟩
        unfold f_X6_balanceOf_n
        rw [xi]
        exact Ti_b hT hi
      obtain ⟨p1, q1⟩ := bl _ s1
      obtain ⟨p2, q2⟩ := bl _ s2
      have od := asl_ord (R := R) hl
      have r1 := ih nf (k + 1) (by omega) (by omega)
      rw [← oad1] at r1
      unfold f_L_areAccountsRight_L288 ok_L_areAccountsRight_L288
      refine G_neg c (G_ka o1 f1 (G_ka o2 f2 (G_neg (by decide) (G_ka p1 q1 (G_ka p2 q2 ?_)))))
      rcases od with od | ⟨od1, od2⟩
      · refine G_pos ?_ r1
        rw [i32_lt]
        exact od
      · refine G_neg ?_ (G_ka p1 q1 (G_ka p2 q2 (G_pos ?_ (G_neg ?_ r1))))
        · rw [i32_lt]
          omega
        · rw [i32_inj]
          exact od1
        · rw [le_ofN (by omega) (by omega)]
          omega
    · have c : Int32.ofNat n ≤ Int32.ofNat k + 1 := by
        rw [oad1, le_ofN (by omega) (by omega)]
        omega
      unfold f_L_areAccountsRight_L288 ok_L_areAccountsRight_L288
      exact G_pos c ⟨trivial, rfl⟩
theorem sum_L {n t : Nat} {B : StB} {R : Nat → Int32} (hT : Ti 0 n 0 0 t B 0 R) : ∀ (g nf k : Nat), k + g = n → g < nf → ok_X0_sum_L4 nf 1 B (sL R k) (Int32.ofNat k) ∧ f_X0_sum_L4 nf 1 B (sL R k) (Int32.ofNat k) = sL R n := by
  have hn : n ≤ 8 := (Ti_n hT).2.2
  have b1 : bi B 1 0 = Int32.ofNat n := (Ti_n hT).1
  intro g
  induction g with
  | zero =>
    intro nf k hk hnf
    obtain ⟨nf, rfl⟩ : ∃ q, nf = q + 1 := ⟨nf - 1, by omega⟩
    have c : bi B 1 0 ≤ Int32.ofNat k := by
      rw [b1, le_ofN (by omega) (by omega)]
      omega
    have hkn : k = n := by omega
    unfold f_X0_sum_L4 ok_X0_sum_L4
    rw [if_pos c, hkn]
    rw [hkn] at c
    exact ⟨⟨fun _ => trivial, fun h => absurd c h⟩, rfl⟩
  | succ g ih =>
    intro nf k hk hnf
    obtain ⟨nf, rfl⟩ : ∃ q, nf = q + 1 := ⟨nf - 1, by omega⟩
    have c : ¬ bi B 1 0 ≤ Int32.ofNat k := by
      rw [b1, le_ofN (by omega) (by omega)]
      omega
    have xk : ix (Int32.ofNat k) = k := ix_o (by omega)
    have e : ba B (1 + 2) k = R (13 + 4 * k) := Ti_b hT (by omega)
    obtain ⟨r1, r2⟩ := ih nf (k + 1) (by omega) (by omega)
    rw [← oad1] at r1 r2
    unfold f_X0_sum_L4 ok_X0_sum_L4
    rw [if_neg c, nm_eq, xk, e]
    refine ⟨⟨fun h => absurd h c, fun _ => ⟨in_o (by omega) (by omega), ?_⟩⟩, r2⟩
    intro v hv
    rw [hv]
    exact r1
theorem sum_C {n t : Nat} {B : StB} {R : Nat → Int32} (hT : Ti 0 n 0 0 t B 0 R) : ok_X0_sum 1 B ∧ f_X0_sum 1 B = sL R n := by
  have hn : n ≤ 8 := (Ti_n hT).2.2
  have hfu : n < fu := by unfold fu; omega
  obtain ⟨r1, r2⟩ := sum_L hT n fu 0 (by omega) hfu
  clear hfu
  refine ⟨r1, ?_⟩
  unfold f_X0_sum
  rw [nm_eq]
  exact r2
theorem sL_int {e n t : Nat} {R : Nat → Int32} (hR : RB e (60 * e) n t 0 0 R) : ∀ k, k ≤ n → (sL R k).toInt = (sB k R).toInt ∧ -(500 * (k : Int)) ≤ (sB k R).toInt ∧ (sB k R).toInt ≤ 20000000 * (k : Int)
  | 0, _ => by
    refine ⟨rfl, ?_, ?_⟩
    · show _ ≤ (0 : Int32).toInt
      rw [lit.1]
      omega
    · show (0 : Int32).toInt ≤ _
      rw [lit.1]
      omega
  | k + 1, hk => by
    have hn : n ≤ 8 := hR.1.1
    obtain ⟨h1, h2, h3⟩ := sL_int hR k (by omega)
    obtain ⟨k1, k2, k3, k4, k5, k6, k7, k8⟩ := bA_at hR.1 (show k < n by omega)
    have hS := hR.2.2
    unfold bS at hS
    rw [if_neg (by omega)] at k8
    have e1 : (sB (k + 1) R).toInt = (sB k R).toInt + (R (13 + 4 * k)).toInt := i32_add (by omega) (by omega)
    have e2 : (sL R (k + 1)).toInt = (sL R k).toInt + (R (13 + 4 * k)).toInt := by
      show (sL R k + (R (13 + 4 * k)).toInt64).toInt = _
      rw [i64_add (by rw [i64_of]; omega) (by rw [i64_of]; omega), i64_of]
    rw [e1, e2]
    omega
theorem tot_eq {e n t : Nat} {R : Nat → Int32} (hR : RB e (60 * e) n t 0 0 R) (hX : XI n R) : (R 5).toInt64 - (R 6).toInt64 = (R 4).toInt64 + sL R n ∧ (R 4).toInt64 = (R 9).toInt64 - (R 8).toInt64 := by
  obtain ⟨x1, x2⟩ := hX
  have hn : n ≤ 8 := hR.1.1
  obtain ⟨h1, h2, h3⟩ := sL_int hR n (Nat.le_refl n)
  have hS := hR.2.2
  unfold bS at hS
  have e4 : (R 4).toInt = (R 9).toInt - (R 8).toInt := by
    rw [x2, i32_sub (by omega) (by omega)]
  have e5 : (R 5).toInt - (R 6).toInt = (R 4).toInt + (sB n R).toInt := by
    rw [← i32_sub (by omega) (by omega), x1, i32_add (by omega) (by omega)]
  refine ⟨?_, ?_⟩
  · rw [i64_inj, i64_sub (by rw [i64_of, i64_of]; omega) (by rw [i64_of, i64_of]; omega), i64_add (by rw [i64_of]; omega) (by rw [i64_of]; omega), i64_of, i64_of, i64_of, h1]
    omega
  · rw [i64_inj, i64_sub (by rw [i64_of, i64_of]; omega) (by rw [i64_of, i64_of]; omega), i64_of, i64_of, i64_of]
    omega
theorem acct_C {e n t : Nat} {B : StB} {R : Nat → Int32} (h : SS e n t B R) (he : e ≤ 100) : Gz (fun z => z.1 = (1 : Int32) ∧ SS e n t z.2 R) (ok_L_areAccountsRight B) (f_L_areAccountsRight B) := by
  have hT := h.1
  have hR := h.2.1
  have hn : n ≤ 8 := hR.1.1
  obtain ⟨b1, b2, b3⟩ := Ti_n hT
  have req : ∀ x, ¬ acc n x → (ok_X6_balanceOf B x ∧ f_X6_balanceOf B x = (1, 0, B)) ∧ (ok_X6_accountAtRank B x ∧ f_X6_accountAtRank B x = (5, 0, B)) := by
    intro x hx
    have f := (reqA (B := B) b1 b3).2 hx
    have h0 := has_0 b1 (by omega) hx
    refine ⟨⟨?_, ?_⟩, ⟨?_, ?_⟩⟩
    · intro z hz h9
      rw [hz, f] at h9
      exact absurd (show (1 : Nat) = 0 from h9) (by decide)
    · unfold f_X6_balanceOf
      rw [nm_eq, f]
      rfl
    · intro r hr
      have hr0 : r = 0 := hr.trans h0
      rw [hr0]
      exact ⟨fun _ => trivial, fun h9 => absurd rfl h9⟩
    · unfold f_X6_accountAtRank
      rw [nm_eq]
      exact if_pos h0
  obtain ⟨⟨p1, p2⟩, p3, p4⟩ := req _ (nacc_n hn)
  obtain ⟨⟨q1, q2⟩, q3, q4⟩ := req _ (nacc_m n)
  obtain ⟨A1, A2⟩ := ask_0 (x3 := 0) p1 p2 (by omega)
  obtain ⟨B1, B2⟩ := ask_0 (x3 := 0) q1 q2 (by omega)
  obtain ⟨C1, C2⟩ := ask_1 (x3 := 0) p3 p4 (by omega)
  obtain ⟨D1, D2⟩ := ask_1 (x3 := 0) q3 q4 (by omega)
  obtain ⟨a1, a2, a3, a4⟩ := acct_L (n := n) (t := t) (R := R) he n 20 0 B (by omega) (by omega) h
  have a1 : ok_L_areAccountsRight_L69 20 B (Int32.ofNat n) 0 1 0 := a1
  unfold f_L_areAccountsRight ok_L_areAccountsRight
  refine G_as (acn hT) (G_ka A1 A2 (G_pos rfl (G_ka B1 B2 (G_pos rfl (G_ka C1 C2 (G_pos rfl (G_ka D1 D2 (G_pos rfl ?_))))))))
  unfold f_L_areAccountsRight_J64 ok_L_areAccountsRight_J64
  refine G_ok a1 fun z hz => ?_
  have z1 : z.1 = sL R n := by rw [hz]; exact a2
  have z2 : z.2.1 = 1 := by rw [hz]; exact a3
  have z3 : SS e n t z.2.2 R := by rw [hz]; exact a4
  clear hz a1 a2 a3 a4
  obtain ⟨z, z', C⟩ := z
  have z1 : z = sL R n := z1
  have z2 : z' = 1 := z2
  have z3 : SS e n t C R := z3
  subst z1 z2
  show Gz _ (_ ∧ ∀ z221 : Int32, z221 = f_L_areAccountsRight_L288 20 C (Int32.ofNat n) (sL R n) 1 0 → _) (nm (f_L_areAccountsRight_L288 20 C (Int32.ofNat n) (sL R n) 1 0) _)
  obtain ⟨r1, r2⟩ := rank_L z3.1 (sL R n) n 20 0 (by omega) (by omega)
  have r1 : ok_L_areAccountsRight_L288 20 C (Int32.ofNat n) (sL R n) 1 0 := r1
  have r2 : f_L_areAccountsRight_L288 20 C (Int32.ofNat n) (sL R n) 1 0 = 1 := r2
  obtain ⟨s1, s2⟩ := sum_C z3.1
  have sc := Ti_s z3.1
  have hbk : f_X6_bankBalance C = R 4 := sc.2.1
  have htk : f_X6_totalInk C = (R 4).toInt64 + sL R n := by
    unfold f_X6_totalInk
    rw [nm_eq, s2]
    exact congrArg (fun v : Int32 => v.toInt64 + sL R n) sc.2.1
  have hmv : f_X6_totalInkByMovements C = (R 5).toInt64 - (R 6).toInt64 := by
    unfold f_X6_totalInkByMovements
    rw [sc.2.2.2.1, sc.2.2.2.2.1]
  have hch : f_X6_chargesPaid C = (R 9).toInt64 := sc.2.2.2.2.2.2.2
  have hin : f_X6_interestPaid C = (R 8).toInt64 := sc.2.2.2.2.2.2.1
  obtain ⟨t1, t2⟩ := tot_eq hR h.2.2.1.1
  have c1 : (1 : Int32) ≠ 0 := by decide
  refine G_ka r1 r2 (G_neg c1 (G_ka s1 htk (G_as hbk (G_pos ?_ (G_as hmv (G_ka s1 htk (G_pos ?_ (G_as hbk (G_as hch (G_as hin (G_pos ?_ ?_)))))))))))
  · rw [Int64.add_comm]
    exact lgc0 _
  · rw [t1]
    exact lgc0 _
  · rw [← t2]
    exact lgc0 _
  unfold f_L_areAccountsRight_J424 ok_L_areAccountsRight_J424
  refine G_neg c1 ?_
  by_cases h0 : n = 0
  · exact G_pos (by rw [h0]; rfl) ⟨trivial, rfl, z3⟩
  · have w0 : ¬ Int32.ofNat n = 0 := by
      rw [show (0 : Int32) = Int32.ofNat 0 from rfl, ofN_inj (by omega) (by omega)]
      exact h0
    have w1 : (1 : Int32) ≤ bi C 1 0 := by
      rw [show bi C 1 0 = Int32.ofNat n from (Ti_n z3.1).1, show (1 : Int32) = Int32.ofNat 1 from rfl, le_ofN (by omega) (by omega)]
      omega
    have cn : bi C 1 0 = Int32.ofNat n := (Ti_n z3.1).1
    have n64 := mean_n64 (sL R n) (Int32.ofNat n) w0
    have om : ok_X6_meanBalance_n C := by
      refine ⟨fun _ => ⟨s1, ?_⟩, fun h => h w1⟩
      intro r hr
      rw [hr, s2, cn]
      exact n64
    have fm : f_X6_meanBalance_n C = FP.ddiv (FP.l2d (sL R n)) (FP.i2d (Int32.ofNat n)) := by
      unfold f_X6_meanBalance_n
      rw [if_pos w1, nm_eq, s2, cn]
    refine G_neg w0 ⟨⟨om, fun _ _ => n64⟩, ?_⟩
    rw [nm_eq, fm]
    have dc : dcmpl (FP.ddiv (FP.l2d (sL R n)) (FP.i2d (Int32.ofNat n))) (FP.ddiv (FP.l2d (sL R n)) (FP.i2d (Int32.ofNat n))) = 0 := by
      unfold dcmpl
      rw [mean_cmp _ _ w0]
      rfl
    rw [if_pos dc]
    exact ⟨rfl, z3⟩
