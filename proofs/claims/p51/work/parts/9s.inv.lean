/-! p51: the law says yes, fourteen times -/
theorem lw_rng : ∀ k, k < 14 → 0 ≤ (200 + 6 * Int32.ofNat k).toInt ∧ (200 + 6 * Int32.ofNat k).toInt < 1000 ∧ 0 ≤ (300 + Int32.ofNat k).toInt ∧ 0 ≤ (320 + Int32.ofNat k).toInt ∧ 0 ≤ (340 + Int32.ofNat k).toInt := by decide +kernel
theorem mx1_n : ∀ n, n < 9 → n ≠ 0 → mx 1 (Int32.ofNat n) = Int32.ofNat n := by decide +kernel
theorem pk9 : ∀ m, m < 9 → 1 + Int32.ofNat m = Int32.ofNat (m + 1) := by decide +kernel
theorem step_C {S : Nat → Int32} {N e n t k : Nat} {B : StB} {R : Nat → Int32} (hN : N ≤ 260) (hk : k < 14) (h : SS e n t B R) (he : e ≤ 50 + k) : lwOk S N B (Int32.ofNat k) ∧ ∃ e' n' t' R', e' ≤ 50 + (k + 1) ∧ SS e' n' t' (lwJ S N B (Int32.ofNat k)).2 R' := by
  obtain ⟨w1, w2, w3, w4, w5⟩ := lw_rng k hk
  obtain ⟨a1, e1, n1, t1, R1, a2, a3⟩ := any_C (S := S) hN h (by omega) ⟨w1, w2⟩
  have he1 : e1 ≤ 50 + (k + 1) := by omega
  have a3 : SS e1 n1 t1 (lwA S N B (Int32.ofNat k)) R1 := a3
  obtain ⟨b1, b2, b3⟩ := acct_C a3 (by omega)
  have b3 : SS e1 n1 t1 (lwB S N B (Int32.ofNat k)) R1 := b3
  have hn : n1 ≤ 8 := a3.2.1.1.1
  have mr := mx1_rng (acn a3.1) hn
  have mr : 1 ≤ (lwn S N B (Int32.ofNat k)).toInt ∧ (lwn S N B (Int32.ofNat k)).toInt ≤ 8 := mr
  have hx : n1 ≠ 0 → acc n1 (f_L_pick S N (300 + Int32.ofNat k) (lwn S N B (Int32.ofNat k))) ∧ acc n1 (f_L_pick S N (320 + Int32.ofNat k) (lwn S N B (Int32.ofNat k))) := by
    intro h0
    have en : lwn S N B (Int32.ofNat k) = Int32.ofNat n1 := by
      unfold lwn
      rw [acn a3.1]
      exact mx1_n n1 (by omega) h0
    have q1 := pk_rng S N (300 + Int32.ofNat k) (x2 := lwn S N B (Int32.ofNat k)) (by omega)
    have q2 := pk_rng S N (320 + Int32.ofNat k) (x2 := lwn S N B (Int32.ofNat k)) (by omega)
    rw [en, ofN_toInt (by omega)] at q1 q2
    rw [en]
    exact ⟨q1, q2⟩
  obtain ⟨c1, c2, c3⟩ := trans_C b3 hx
  have c2 : (lwT S N B (Int32.ofNat k)).1 = 1 := c2
  have c3 : SS e1 n1 t1 (lwT S N B (Int32.ofNat k)).2 R1 := c3
  have q9 : 0 < (9 : Int32).toInt := by decide
  have pr := pk_rng S N (340 + Int32.ofNat k) q9
  obtain ⟨m, hm, em⟩ := of_rng (n := 9) pr.1 (by rw [show ((9 : Nat) : Int) = (9 : Int32).toInt from by decide]; exact pr.2)
  obtain ⟨d1, d2, d3⟩ := pred_C (d := m + 1) c3 (by omega) (by omega)
  have ed : 1 + f_L_pick S N (340 + Int32.ofNat k) 9 = Int32.ofNat (m + 1) := by
    rw [em]
    exact pk9 m hm
  rw [← ed] at d1 d2 d3
  have d2 : (lwP S N B (Int32.ofNat k)).1 = 1 := d2
  have d3 : SS e1 n1 t1 (lwP S N B (Int32.ofNat k)).2 R1 := d3
  obtain ⟨f1, f2⟩ := jour_C d3
  have f2 : lwJ S N B (Int32.ofNat k) = (1, (lwP S N B (Int32.ofNat k)).2) := f2
  refine ⟨⟨a1, b1, b2, pk_ok S hN w3 (by omega), pk_ok S hN w4 (by omega), c1, c2, pk_ok S hN w5 q9, d1, d2, f1, ?_⟩, ?_⟩
  · rw [f2]
  · have f3 : (lwJ S N B (Int32.ofNat k)).2 = (lwP S N B (Int32.ofNat k)).2 := by rw [f2]
    rw [f3]
    exact ⟨e1, n1, t1, R1, he1, d3⟩
theorem hInv : ∀ (S : Nat → Int32) (N : Nat), N ≤ 260 → ∃ Inv : Nat → StB → Prop, ok_L_lay S N B0 ∧ Inv 0 (f_L_lay S N B0) ∧ ∀ k B, k < 14 → Inv k B → lwOk S N B (Int32.ofNat k) ∧ Inv (k + 1) (lwJ S N B (Int32.ofNat k)).2 := by
  intro S N hN
  obtain ⟨o, e, n, t, R, he, h⟩ := lay_C (S := S) hN start0 rfl
  refine ⟨fun k B => ∃ e n t R, e ≤ 50 + k ∧ SS e n t B R, o, ⟨e, n, t, R, by omega, h⟩, fun k B hk ⟨e', n', t', R', he', h'⟩ => step_C hN hk h' he'⟩
