/-! the pure part: the balance after days -/
theorem case_21 {u : Nat} {B : StB} {M : StM} (hI : Inv u B M) (hu : u < 512) (O : StO) (y1 y2 : Int32) : okc_21 B M O y1 y2 ∧ Inv (u + 1) (stB_21 B M O y1 y2) (stM_21 B M O y1 y2) := by
  have hN := fun v => Inv_15 hI hu v
  have hI' := hI
  obtain ⟨e, ty, he, hu2, hL, hS, hH, hE, hRd, hTt⟩ := hI
  have hL' := hL
  obtain ⟨n, t, hT, hR⟩ := hL
  obtain ⟨b1, b2, b3⟩ := Ti_n hT
  obtain ⟨m1, m0⟩ := acc_M (M := M) (x := y1) b2 b3
  have l := lit
  unfold okc_21 stB_21 stM_21
  by_cases hx : acc n y1
  · rcases isIn_c y2 0 60 with ⟨hy, z1, z2⟩ | ⟨hy, _⟩
    · obtain ⟨i, hi, rfl⟩ := acc_o hx
      obtain ⟨d, hd, rfl⟩ := of_rng (x := y2) (n := 61) (by omega) (by omega)
      have a0 := argf_0 (p := 0) (lo := 0) (hi := 60) b1 (by omega) hx hy
      have hxx : ix (Int32.ofNat i) = i := ix_o (by omega)
      have hv : vp_in (Int32.ofNat i) 8 := in_o (by omega) (by omega)
      obtain ⟨c1, c2, c3⟩ := copy_C hT hR.1 (p := 16) (by omega)
      have F := F_copies_M0_M2 (smi M 15 0) 0 0 (by omega) (by omega)
      rw [show Int32.ofNat 0 = 0 from rfl] at F
      generalize hC : f_X3_copyFrom 16 0 B = C at c1 c2 c3
      have q0 : ma (mcp (smi M 15 0) 0 0 2 0 124) 0 = ma M 0 := by
        funext k
        rw [ma_mcp, if_neg (by omega), ma_smi]
      have q2 : ∀ k, k < 124 → ma (mcp (smi M 15 0) 0 0 2 0 124) 2 k = ma M 0 k := fun k hk => by
        rw [ma_mcp, if_pos (by omega), ma_smi]
        exact congrArg (ma M 0) (by omega)
      have qq : ∀ q k, 3 ≤ q → ma (mcp (smi M 15 0) 0 0 2 0 124) q k = ma M q k := fun q k hq => by
        rw [ma_mcp, if_neg (by omega), ma_smi]
      have qm : ∀ j, mi (mcp (smi M 15 0) 0 0 2 0 124) j = mi (smi M 15 0) j := fun j => rfl
      generalize mcp (smi M 15 0) 0 0 2 0 124 = N at F q0 q2 qq qm
      have z0 : Int32.ofNat 0 = 0 := rfl
      have hfu : 61 < fu := by unfold fu; omega
      obtain ⟨t', R', v, r1, r2, r3, r4, r5, r6, r7, r8⟩ := L_pass d (by omega) (Int32.ofNat i) d fu fu 0 (60 * e) t C (ma M 0) N 0 (by omega) (by omega) (by omega) (by omega) c3 hR
      clear hfu
      rw [z0] at r1 r2 r3 r4 r5 r6 r8
      have eN : rs N (ma M 0) = N := by
        rw [← q0, rs_self]
      rw [eN] at r3 r5
      have ep : f_X3_passDays 16 C (Int32.ofNat d) = ((f_X3_passDays_L4 fu 16 C (Int32.ofNat d) 0 0).1, (f_X3_passDays_L4 fu 16 C (Int32.ofNat d) 0 0).2) := by
        unfold f_X3_passDays
        rw [nm_eq]
      have op : ok_X3_passDays 16 C (Int32.ofNat d) := r1
      have tb : ba (f_X3_passDays_L4 fu 16 C (Int32.ofNat d) 0 0).2 19 i = R' (13 + 4 * i) := Ti_b r6 hi
      generalize (f_X3_passDays_L4 fu 16 C (Int32.ofNat d) 0 0).2 = D at ep r6 r8 tb
      have ef : f_X6_balanceAfter B (Int32.ofNat i) (Int32.ofNat d) = (0, R' (13 + 4 * i), D) := by
        unfold f_X6_balanceAfter f_X3_balanceAfterFault
        rw [nm_eq, nm_eq, a0, nm_eq, (raise_k B).1]
        show (if 0 = 0 then nm (f_X3_copyFrom 16 0 B) _ else _) = _
        rw [if_pos rfl, hC, nm_eq, ep, nm_eq, hxx]
        exact congrArg (fun v => ((0 : Nat), v, D)) tb
      have ok6 : ok_X6_balanceAfter B (Int32.ofNat i) (Int32.ofNat d) := by
        intro r hr
        have : r = 0 := by
          rw [hr]
          unfold f_X3_balanceAfterFault
          rw [nm_eq, a0]
        rw [this, (raise_k B).1]
        intro z hz _
        rw [hz]
        show ok_X3_copyFrom 16 0 B ∧ _
        refine ⟨c1, ?_⟩
        intro z2 hz2
        have hz3 : z2 = C := hz2.trans hC
        rw [hz3]
        exact ⟨op, fun _ _ => hv⟩
      have o1 := of_1 (M := smi N 10 v) (R := R') r7.1.2.1 r7.1.1 hi
      have oo1 : ok_X7_of (rs (smi N 10 v) R') (Int32.ofNat i) 1 := ok_of1 r7.1.2.1 r7.1.1
      have F2 := F_copies_M2_M0 (rs (smi N 10 v) R') 0 0 (by omega) (by omega)
      rw [z0] at F2
      have em : f_X7_balanceAfter M (Int32.ofNat i) (Int32.ofNat d) = (R' (13 + 4 * i), mcp (rs (smi N 10 v) R') 2 0 0 0 124) := by
        unfold f_X7_balanceAfter
        rw [nm_eq, m1 hx, nm_eq, hy, nm_eq, holds_0]
        show (if (1 : Int32) = 0 then _ else nm (f_X7_copies_M0_M2 (smi M 15 0) 0 0) _) = _
        rw [if_neg (by decide), F.1, nm_eq, r5, nm_eq, o1, nm_eq, F2.1, nm_eq]
      have om : ok_X7_balanceAfter M (Int32.ofNat i) (Int32.ofNat d) := by
        refine ⟨okisAcc _ _, ?_⟩
        intro r hr
        rw [hr, m1 hx]
        intro r' hr'
        rw [hr', hy]
        intro z hz
        rw [hz, holds_0]
        refine ⟨fun h9 => absurd (show (1 : Int32) = 0 from h9) (by decide), fun _ => ?_⟩
        show ok_X7_copies_M0_M2 (smi M 15 0) 0 0 ∧ _
        refine ⟨F.2, ?_⟩
        intro z2 hz2
        have hz3 : z2 = N := hz2.trans F.1
        rw [hz3]
        refine ⟨r3, ?_⟩
        intro z4 hz4
        rw [hz4, r5]
        exact ⟨oo1, fun _ _ => F2.2⟩
      have h15 : mi (mcp (rs (smi N 10 v) R') 2 0 0 0 124) 15 = 0 := by
        rw [mi_mcp, mi_rs, mi_smi, if_neg (by decide), qm, mi_smi, if_pos rfl]
      have hfin : Inv (u + 1) D (mcp (rs (smi N 10 v) R') 2 0 0 0 124) := by
        refine Inv_F hI' hu (lo := 16) (hi := 32) (Fg_t c2 r8) (by omega) (fun k hk => ?_) (fun q k hq => ?_) (fun j h1 h2 => ?_)
        · rw [ma_mcp, if_pos (by omega), ma_rs _ _ (by decide), ma_smi, q2 _ (by omega)]
          exact congrArg (ma M 0) (by omega)
        · rw [ma_mcp, if_neg (by omega), ma_rs _ _ (by omega), ma_smi, qq q k hq]
        · rw [mi_mcp, mi_rs, mi_smi, if_neg h2, qm, mi_smi, if_neg h1]
      rw [ef, em]
      exact ⟨⟨ok6, Or.inl rfl, om, h15, fun _ => rfl⟩, hfin⟩
    · have a0 := argf_2 (p := 0) (B := B) (lo := 0) (hi := 60) b1 (by omega) hx hy
      have ef : f_X6_balanceAfter B y1 y2 = (2, 0, B) := by
        unfold f_X6_balanceAfter f_X3_balanceAfterFault
        rw [nm_eq, nm_eq, a0, nm_eq, (raise_k B).2.2.1]
        rfl
      have ok6 : ok_X6_balanceAfter B y1 y2 := by
        intro r hr
        have : r = 2 := by
          rw [hr]
          unfold f_X3_balanceAfterFault
          rw [nm_eq, a0]
        rw [this, (raise_k B).2.2.1]
        intro z hz h0
        rw [hz] at h0
        exact absurd (show (2 : Nat) = 0 from h0) (by decide)
      have em : f_X7_balanceAfter M y1 y2 = (0, smi M 15 2) := by
        unfold f_X7_balanceAfter
        rw [nm_eq, m1 hx, nm_eq, hy, nm_eq, holds_2]
        rfl
      have om : ok_X7_balanceAfter M y1 y2 := by
        refine ⟨okisAcc _ _, ?_⟩
        intro r hr
        rw [hr, m1 hx]
        intro r' hr'
        rw [hr', hy]
        intro z hz
        rw [hz, holds_2]
        exact ⟨fun _ => trivial, fun h9 => absurd rfl h9⟩
      rw [ef, em]
      exact ⟨⟨ok6, Or.inr (Or.inr rfl), om, rfl, fun h => absurd (show (2 : Int32) = 0 from h) (by decide)⟩, hN 2⟩
  · have a0 := argf_1 (p := 0) (B := B) (y := y2) (lo := 0) (hi := 60) b1 (by omega) hx
    have ef : f_X6_balanceAfter B y1 y2 = (1, 0, B) := by
      unfold f_X6_balanceAfter f_X3_balanceAfterFault
      rw [nm_eq, nm_eq, a0, nm_eq, (raise_k B).2.1]
      rfl
    have ok6 : ok_X6_balanceAfter B y1 y2 := by
      intro r hr
      have : r = 1 := by
        rw [hr]
        unfold f_X3_balanceAfterFault
        rw [nm_eq, a0]
      rw [this, (raise_k B).2.1]
      intro z hz h0
      rw [hz] at h0
      exact absurd (show (1 : Nat) = 0 from h0) (by decide)
    have em : f_X7_balanceAfter M y1 y2 = (0, smi M 15 1) := by
      unfold f_X7_balanceAfter
      rw [nm_eq, m0 hx, nm_eq, nm_eq, holds_1]
      rfl
    have om : ok_X7_balanceAfter M y1 y2 := by
      refine ⟨okisAcc _ _, ?_⟩
      intro r hr
      rw [hr, m0 hx]
      intro r' hr'
      intro z hz
      rw [hz, holds_1]
      exact ⟨fun _ => trivial, fun h9 => absurd rfl h9⟩
    rw [ef, em]
    exact ⟨⟨ok6, Or.inr (Or.inl rfl), om, rfl, fun h => absurd (show (1 : Int32) = 0 from h) (by decide)⟩, hN 1⟩
