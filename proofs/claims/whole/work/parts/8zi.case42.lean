/-! the pure part: a typed program -/
theorem exec_ok {u e ty N : Nat} {B D : StB} {M M' : StM} (x : Int32) (he : e + ty ≤ u) (hu : u < 512) (h1 : 1 ≤ N) (h5 : 5 * N ≤ ty + 1) (hL : LR e B 0 (ma M 0)) (hS : IvS e B M) (hH : IvH e B M) (hE : IvE B M) (hT : IvT B M) (gA : GF B D) (t0 : bi D 179 1 = Int32.ofNat 0) (lD : LR (e + N) D 16 (ma M' 0)) (y4 : mi M' 15 = 0) (mj : ∀ j, j ≠ 10 → j ≠ 12 → j ≠ 15 → j ≠ 16 → j ≠ 17 → j ≠ 18 → j ≠ 19 → mi M' j = mi M j) (m12 : mi M' 12 = 0) (mq : ∀ q k, q ≠ 0 → q ≠ 1 → q ≠ 7 → ma M' q k = ma M q k) (m1 : ∀ k, k < 124 → ma M' 1 k = ma M 0 k) : ok_X1_remember 0 D ∧ ok_X3_copyFrom 0 16 (f_X1_remember 0 D) ∧ ok_X7_ends M' x ∧ (f_X7_ends M' x).1 = x ∧ mi (f_X7_ends M' x).2 15 = 0 ∧ Inv (u + 1) (f_X3_copyFrom 0 16 (f_X1_remember 0 D)) (f_X7_ends M' x).2 := by
  obtain ⟨hl, hn, a1, a2, a3, a4, a5, a6⟩ := hH
  have hL' := LR_mono (gA.2.2 e 0 _ (Or.inl rfl) (by omega) hL) (Nat.le_add_right e N) (by omega)
  obtain ⟨q1, q2, q3, q4, q5, q6, q7, q8⟩ := rem_C hL' a1 a2 ((gA.2.1 177 0 (by omega)).1.trans a3) ((gA.2.1 177 1 (by omega)).1.trans a5)
  have lD2 := q4 16 _ (by omega) (by omega) lD
  generalize f_X1_remember 0 D = D2 at q1 q2 q3 q4 q5 q6 q7 q8 lD2
  obtain ⟨z1, z2, z3, z4⟩ := LR_copy lD2 (p := 0) (by omega)
  generalize f_X3_copyFrom 0 16 D2 = D3 at z1 z2 z3 z4
  have m6' : mi M' 6 = Int32.ofNat hl := (mj 6 (by decide) (by decide) (by decide) (by decide) (by decide) (by decide) (by decide)).trans a4
  obtain ⟨E1, E2⟩ := ends_0 (x := x) y4
  obtain ⟨g1, g2, g3, g4, g5, g6⟩ := remb_M M' hl a1 m6'
  have mall : ∀ j, j ≠ 6 → j ≠ 10 → j ≠ 12 → j ≠ 15 → j ≠ 16 → j ≠ 17 → j ≠ 18 → j ≠ 19 → mi (f_X7_remembers M') j = mi M j := by
    intro j h1 h2 h3 h4 h5 h6 h7 h8
    rw [g3 j h1, mj j h2 h3 h4 h5 h6 h7 h8]
  have mqa : ∀ q k, q ≠ 0 → q ≠ 1 → q ≠ 4 → q ≠ 7 → ma (f_X7_remembers M') q k = ma M q k := by
    intro q k h0 h1 h4 h7
    rw [g4 q k h4, mq q k h0 h1 h7]
  have bB : ∀ q k, (q = 176 ∨ 182 ≤ q) → bi D3 q k = bi B q k ∧ bl D3 q k = bl B q k ∧ ba D3 q k = ba B q k := by
    intro q k hq
    have w1 := z2.2 q k (by omega)
    have w2 := q7 q k (by omega)
    have w3 := gA.2.1 q k (by omega)
    exact ⟨w1.1.trans (w2.1.trans w3.1), w1.2.1.trans (w2.2.1.trans w3.2.1), w1.2.2.trans (w2.2.2.trans w3.2.2)⟩
  have keep : ∀ q Q, 32 ≤ q → (q + 16 ≤ 48 + 16 * ((hn + 1) % 8) ∨ 48 + 16 * ((hn + 1) % 8) + 16 ≤ q) → q + 16 ≤ 177 → LR e B q Q → LR (e + N) D3 q Q := by
    intro q Q w1 w2 w3 w4
    exact LR_Fg (q4 q Q w2 w3 (LR_mono (gA.2.2 e q Q (Or.inr w1) (by omega) w4) (Nat.le_add_right e N) (by omega))) z2 (by omega)
  rw [E1]
  refine ⟨q1, z1, E2 g1, rfl, ?_, e + N, 0, by omega, by omega, ?_, ?_, ?_, ?_, ?_, ?_⟩
  · show mi (f_X7_remembers M') 15 = 0
    rw [g3 15 (by decide), y4]
  · exact LR_cong z3 (fun k _ => g4 0 k (by decide))
  · obtain ⟨s1, s2, s3⟩ := hS
    have w7 := (bB 176 7 (Or.inl rfl)).1
    refine ⟨by rw [w7]; exact s1, ?_, fun h9 => LR_cong (keep 32 _ (by omega) (by omega) (by omega) (s3 (w7.symm.trans h9))) (fun k _ => mqa 3 k (by decide) (by decide) (by decide) (by decide))⟩
    rw [w7]
    exact (mall 5 (by decide) (by decide) (by decide) (by decide) (by decide) (by decide) (by decide) (by decide)).trans s2
  · have w0 := (z2.2 177 0 (by omega)).1.trans q5
    have w1 := (z2.2 177 1 (by omega)).1.trans q6
    refine ⟨min (hl + 1) 8, (hn + 1) % 8, by omega, Nat.mod_lt _ (by decide), w0, g2, w1, fun r hr => ?_⟩
    by_cases hr0 : r = 0
    · subst hr0
      have hp : ((hn + 1) % 8 + 8 - 0) % 8 = (hn + 1) % 8 := by omega
      rw [hp]
      refine LR_cong (LR_Fg q2 z2 (by omega)) (fun k hk => ?_)
      show ma (f_X7_remembers M') 4 (124 * (min (hl + 1) 8 - 1 - 0) + k) = ma M 0 k
      rw [Nat.sub_zero, g5 k hk, m1 k hk]
    · have hp : ((hn + 1) % 8 + 8 - r) % 8 = (hn + 8 - (r - 1)) % 8 := by omega
      have hne : (hn + 8 - (r - 1)) % 8 ≠ (hn + 1) % 8 := by omega
      rw [hp]
      have h0 := a6 (r - 1) (by omega)
      refine LR_cong (keep _ _ (by omega) (by omega) (by omega) h0) (fun k hk => ?_)
      show ma (f_X7_remembers M') 4 (124 * (min (hl + 1) 8 - 1 - r) + k) = ma M 4 (124 * (hl - 1 - (r - 1)) + k)
      rw [g6 (min (hl + 1) 8 - 1 - r) k (by omega) hk, mq 4 _ (by decide) (by decide) (by decide)]
      refine congrArg (fun x => ma M 4 (124 * x + k)) ?_
      split <;> omega
  · exact IvE_k hE (bB 176 8 (Or.inl rfl)).1 (bB 176 9 (Or.inl rfl)).1 (mall 7 (by decide) (by decide) (by decide) (by decide) (by decide) (by decide) (by decide) (by decide)) (mall 8 (by decide) (by decide) (by decide) (by decide) (by decide) (by decide) (by decide) (by decide)) (mall 9 (by decide) (by decide) (by decide) (by decide) (by decide) (by decide) (by decide) (by decide))
  · refine ⟨by omega, ?_, ?_, fun k hk => by omega⟩
    · rw [(z2.2 179 1 (by omega)).1, (q7 179 1 (by omega)).1]
      exact t0
    · show mi (f_X7_remembers M') 12 = _
      rw [g3 12 (by decide), m12]
      rfl
  · exact IvT_k hT (z2.1.trans (q8.trans gA.1)) (bB 191 3 (by omega)).1 (mall 14 (by decide) (by decide) (by decide) (by decide) (by decide) (by decide) (by decide) (by decide)) (fun k => (bB 192 k (by omega)).2.2) (fun k _ => mqa 6 k (by decide) (by decide) (by decide) (by decide))
theorem exec_no {u e ty : Nat} {B D : StB} {M N : StM} (he : e + ty ≤ u) (hu : u < 512) (hL : LR e B 0 (ma M 0)) (hS : IvS e B M) (hH : IvH e B M) (hE : IvE D N) (hT : IvT B M) (gB : bz D = bz B ∧ (∀ q k, (q < 16 ∨ (32 ≤ q ∧ q < 176) ∨ (q = 177) ∨ 182 ≤ q) → bi D q k = bi B q k ∧ bl D q k = bl B q k ∧ ba D q k = ba B q k)) (g7 : bi D 176 7 = bi B 176 7) (gL : ∀ e q R, (q = 0 ∨ 32 ≤ q) → q + 16 ≤ 176 → LR e B q R → LR e D q R) (t0 : bi D 179 1 = Int32.ofNat 0) (mj : ∀ j, (j = 5 ∨ j = 6 ∨ j = 14) → mi N j = mi M j) (m12 : mi N 12 = 0) (mq : ∀ q k, q ≠ 0 → q ≠ 1 → q ≠ 7 → ma N q k = ma M q k) (m0 : ∀ k, k < 124 → ma N 0 k = ma M 0 k) : Inv (u + 1) D N := by
  refine ⟨e, 0, by omega, by omega, LR_cong (gL e 0 _ (Or.inl rfl) (by omega) hL) m0, ?_, ?_, hE, ?_, ?_⟩
  · exact IvS_k hS (Nat.le_refl e) (by omega) g7 (mj 5 (by omega)) (fun k _ => mq 3 k (by decide) (by decide) (by decide)) (fun R h => gL e 32 R (by omega) (by omega) h)
  · exact IvH_k hH (Nat.le_refl e) (by omega) (gB.2 177 0 (by omega)).1 (gB.2 177 1 (by omega)).1 (mj 6 (by omega)) (fun k _ => mq 4 k (by decide) (by decide) (by decide)) (fun q R h1 h2 h => gL e q R (by omega) h2 h)
  · exact ⟨by omega, t0, m12, fun k hk => by omega⟩
  · exact IvT_k hT gB.1 (gB.2 191 3 (by omega)).1 (mj 14 (by omega)) (fun k => (gB.2 192 k (by omega)).2.2) (fun k _ => mq 6 k (by decide) (by decide) (by decide))
