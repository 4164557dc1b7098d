/-! the pure part: a statement written, the case -/
theorem Inv_Wt {u L : Nat} {B C : StB} {M N : StM} (h : Inv u B M) (hu : u < 512) (w : Wt L B (smi M 15 0) C N) (hL : L ≤ 16) : Inv (u + 1) C (smi N 14 (Int32.ofNat L)) := by
  obtain ⟨e, ty, a1, a2, a3, a4, a5, a6, a7, a8⟩ := h
  obtain ⟨w1, w2, w3, g, m1, m2, m3⟩ := w
  have hm : ∀ j, j ≠ 14 → j ≠ 15 → mi (smi N 14 (Int32.ofNat L)) j = mi M j := by
    intro j h1 h2
    rw [mi_smi, if_neg h1, m1 j, mi_smi, if_neg h2]
  have hq : ∀ q k, q ≠ 6 → ma (smi N 14 (Int32.ofNat L)) q k = ma M q k := by
    intro q k h
    rw [ma_smi, m2 q k h, ma_smi]
  refine ⟨e, ty, by omega, by omega, LR_cong (LR_Fg a3 g (by omega)) (fun k _ => hq 0 k (by decide)), ?_, ?_, ?_, ?_, ?_⟩
  · exact IvS_k a4 (Nat.le_refl e) (by omega) (g.2 _ _ (by omega)).1 (hm 5 (by decide) (by decide)) (fun k _ => hq 3 k (by decide)) (fun _ h => LR_Fg h g (by omega))
  · exact IvH_k a5 (Nat.le_refl e) (by omega) (g.2 _ _ (by omega)).1 (g.2 _ _ (by omega)).1 (hm 6 (by decide) (by decide)) (fun k _ => hq 4 k (by decide)) (fun _ _ _ _ h => LR_Fg h g (by omega))
  · exact IvE_k a6 (g.2 _ _ (by omega)).1 (g.2 _ _ (by omega)).1 (hm 7 (by decide) (by decide)) (hm 8 (by decide) (by decide)) (hm 9 (by decide) (by decide))
  · exact IvR_k a7 (g.2 _ _ (by omega)).1 (hm 12 (by decide) (by decide)) (fun _ => (g.2 _ _ (by omega)).2.2) (fun k _ => hq 5 k (by decide))
  · exact ⟨L, hL, w2, w1, by rw [mi_smi, if_pos rfl], fun k hk => w3 k hk⟩
def lk : Nat → Nat
  | 0 => 67
  | 1 => 83
  | 2 => 81
  | _ => 86
theorem letK : ∀ k, k < 4 → f_J0_charAt_5068e 0 (Int32.ofNat k) = Int32.ofNat (lk k) ∧ f_X7_letterFor (Int32.ofNat k) = Int32.ofNat (lk k) ∧ lk k < 128 ∧ k < (kByt.getD 0 []).length := by decide +kernel
theorem set0 {B : StB} {sl : Nat} (h : bz B = 16) (h3 : bi B 191 3 = Int32.ofNat sl) (hs : sl ≤ 16) : ∃ C, f_J4_setLength_d00df B 0 = C ∧ ok_J4_setLength_d00df B 0 ∧ bi C 191 3 = Int32.ofNat 0 ∧ bz C = 16 ∧ Fg 191 193 B C := by
  obtain ⟨c1, c2⟩ := ens_C (L := 0) h (by omega)
  have c1 : f_J5_ensureCapacityInternal_d00df B 0 = B := c1
  have c2 : ok_J5_ensureCapacityInternal_d00df B 0 := c2
  have ge : (0 : Int32) ≤ bi B 191 3 := by
    rw [h3]
    exact ge_0 (by omega)
  have ok : ok_J4_setLength_d00df B 0 := by
    refine ⟨by decide, c2, ?_⟩
    intro B3 hB
    rw [hB, c1]
    exact ge
  by_cases c : bi B 191 3 ≤ 0
  · refine ⟨sbi B 191 3 0, ?_, ok, by rw [bi_sbi, if_pos ⟨rfl, rfl⟩]; rfl, h, Fg_i (Fg_r _ _ _) _ _ (by omega) (by omega)⟩
    unfold f_J4_setLength_d00df f_J5_setLength_d00df
    rw [nm_eq, nm_eq, c1, if_pos c, nm_eq]
  · refine ⟨sbi (sbi B 191 2 1) 191 3 0, ?_, ok, by rw [bi_sbi, if_pos ⟨rfl, rfl⟩]; rfl, h, Fg_i (Fg_i (Fg_r _ _ _) _ _ (by omega) (by omega)) _ _ (by omega) (by omega)⟩
    unfold f_J4_setLength_d00df f_J5_setLength_d00df
    rw [nm_eq, nm_eq, c1, if_neg c, nm_eq, nm_eq]
/-- a balance as digits -/
theorem bal_d {x : Int32} (h1 : -500 ≤ x.toInt) (h2 : x.toInt < 100000000) : ∃ v D s, dgt v D ∧ ((0 ≤ x ∧ s = 0 ∧ x = Int32.ofNat v) ∨ (¬ 0 ≤ x ∧ s = 1 ∧ x = -(Int32.ofNat v))) ∧ s + (D + 1) ≤ 8 := by
  by_cases c : 0 ≤ x
  · have c' := c
    rw [i32_le, lit.1] at c'
    obtain ⟨v, hv, e⟩ := of_rng (x := x) (n := 100000000) c' h2
    obtain ⟨D, hD⟩ := dgt_ex hv
    have := hD.2.2
    exact ⟨v, D, 0, hD, Or.inl ⟨c, rfl, e⟩, by omega⟩
  · have c' := c
    rw [i32_le, lit.1] at c'
    have hn : (-x).toInt = -x.toInt := i32_neg (by omega)
    obtain ⟨v, hv, e⟩ := of_rng (x := -x) (n := 501) (by omega) (by omega)
    obtain ⟨D, hD⟩ := dgt_ex (v := v) (by omega)
    have hD2 : D ≤ 2 := by
      apply Classical.byContradiction
      intro hc
      have := p10_m (show 3 ≤ D by omega)
      have e3 : p10 3 = 1000 := by decide
      have := hD.2.1
      omega
    refine ⟨v, D, 1, hD, Or.inr ⟨c, rfl, ?_⟩, by omega⟩
    rw [← e, Int32.neg_neg]
theorem lim_d {x : Int32} (h1 : 0 ≤ x.toInt) (h2 : x.toInt ≤ 500) : ∃ v D, dgt v D ∧ x = Int32.ofNat v ∧ D ≤ 2 ∧ 0 ≤ x := by
  obtain ⟨v, hv, e⟩ := of_rng (x := x) (n := 501) h1 (by omega)
  obtain ⟨D, hD⟩ := dgt_ex (v := v) (by omega)
  refine ⟨v, D, hD, e, ?_, by rw [i32_le, lit.1]; exact h1⟩
  apply Classical.byContradiction
  intro hc
  have := p10_m (show 3 ≤ D by omega)
  have e3 : p10 3 = 1000 := by decide
  have := hD.2.1
  omega
theorem case_39 {u : Nat} {B : StB} {M : StM} (hI : Inv u B M) (hu : u < 512) (O : StO) (y1 : Int32) : okc_39 B M O y1 ∧ Inv (u + 1) (stB_39 B M O y1) (stM_39 B M O y1) := by
  have hN := fun v => Inv_15 hI hu v
  have hW := fun (L : Nat) (C : StB) (N : StM) (w : Wt L B (smi M 15 0) C N) (hL : L ≤ 16) => Inv_Wt hI hu w hL
  obtain ⟨e, ty, he, hu2, ⟨n, t, hT, hR⟩, hS, hH, hE, hRd, ⟨sl, hsl, hbz, hb3, _, _⟩⟩ := hI
  obtain ⟨b1, b2, b3⟩ := Ti_n hT
  have b1 : bi B 1 0 = Int32.ofNat n := b1
  obtain ⟨r1, r0⟩ := reqA (x := y1) b1 b3
  obtain ⟨m1, m0⟩ := acc_M (M := M) (x := y1) b2 b3
  unfold okc_39 stB_39 stM_39
  by_cases hx : acc n y1
  · obtain ⟨i, hi, rfl⟩ := acc_o hx
    have A := bA_at hR.1 hi
    have hsS := hR.2.2
    unfold bS at hsS
    obtain ⟨q1, q2, q3, q4, q5, q6, _⟩ := hsS
    obtain ⟨A1, A2, A3, A4, A5, _, A6, A7⟩ := A
    rw [if_neg (Nat.not_lt_zero i)] at A7
    have xi : ix (Int32.ofNat i) = i := ix_o (by omega)
    have vi : vp_in (Int32.ofNat i) 8 := in_o (by omega) (by omega)
    obtain ⟨kd, hkd, ek⟩ := of_rng (x := ma M 0 (12 + 4 * i)) (n := 4) A1 (by omega)
    obtain ⟨v, D, s, dB, xB, lB⟩ := bal_d (x := ma M 0 (13 + 4 * i)) (by omega) (by omega)
    obtain ⟨w, E, dL, xL, lL, gL⟩ := lim_d (x := ma M 0 (14 + 4 * i)) A4 A5
    obtain ⟨k1, k2, k3, k4⟩ := letK kd hkd
    have vK := Ti_k hT hi
    have vB := Ti_b hT hi
    have vL := Ti_l hT hi
    have vT := Ti_t hT hi
    -- the model's reads
    have rd : ∀ N, NF 0 (smi M 15 0) N → f_X7_of N (Int32.ofNat i) 0 = ma M 0 (12 + 4 * i) ∧ ok_X7_of N (Int32.ofNat i) 0 ∧ f_X7_of N (Int32.ofNat i) 1 = ma M 0 (13 + 4 * i) ∧ ok_X7_of N (Int32.ofNat i) 1 ∧ f_X7_of N (Int32.ofNat i) 2 = ma M 0 (14 + 4 * i) ∧ ok_X7_of N (Int32.ofNat i) 2 ∧ f_X7_of N (Int32.ofNat i) 3 = ma M 0 (15 + 4 * i) ∧ ok_X7_of N (Int32.ofNat i) 3 := by
      intro N hN
      have h1 : ma N 0 1 = Int32.ofNat n := (hN.2.1 0 1 (by decide)).trans b2
      have o0 := of_m (j := 0) h1 b3 hi (by decide)
      have o1 := of_m (j := 1) h1 b3 hi (by decide)
      have o2 := of_m (j := 2) h1 b3 hi (by decide)
      have o3 := of_m (j := 3) h1 b3 hi (by decide)
      rw [hN.2.1 0 _ (by decide), ma_smi] at o0 o1 o2 o3
      rw [show 12 + 4 * i + 1 = 13 + 4 * i by omega] at o1
      rw [show 12 + 4 * i + 2 = 14 + 4 * i by omega] at o2
      rw [show 12 + 4 * i + 3 = 15 + 4 * i by omega] at o3
      exact ⟨o0.1, o0.2, o1.1, o1.2, o2.1, o2.2, o3.1, o3.2⟩
    have cl : ∀ C, Fg 191 193 B C → ba C 2 i = ma M 0 (12 + 4 * i) ∧ ba C 3 i = ma M 0 (13 + 4 * i) ∧ ba C 4 i = ma M 0 (14 + 4 * i) ∧ ba C 5 i = ma M 0 (15 + 4 * i) := by
      intro C g
      exact ⟨(g.2 2 i (by omega)).2.2.trans vK, (g.2 3 i (by omega)).2.2.trans vB, (g.2 4 i (by omega)).2.2.trans vL, (g.2 5 i (by omega)).2.2.trans vT⟩
    clear vK vB vL vT hT hR hS hH hE hRd A1 A2 A4 A5 A6 A7 q1 q2 q3 q4 q5 q6 hN r0 m0
    obtain ⟨C0, f0, o0, z0, y0, g0⟩ := set0 hbz hb3 hsl
    have W0 : Wt 0 B (smi M 15 0) C0 (smi M 15 0) := ⟨z0, y0, fun k hk => absurd hk (Nat.not_lt_zero k), g0, NF_r 0 _⟩
    obtain ⟨C1, N1, f1, o1, p1, t1, W1⟩ := app_ch W0 (by omega) k3
    obtain ⟨C2, N2, f2, o2, p2, t2, W2⟩ := app_nu (x := Int32.ofNat i) (v := i) (D := 0) (s := 0) W1 ⟨by have : p10 (0 + 1) = 10 := rfl; omega, Or.inl rfl, by omega⟩ (Or.inl ⟨ge_0 (by omega), rfl, rfl⟩) (by omega)
    obtain ⟨C3, N3, f3, o3, p3, t3, W3⟩ := app_ch (x := 58) W2 (by omega) (by decide)
    obtain ⟨C4, N4, f4, o4, p4, t4, W4⟩ := app_nu W3 dB xB (by omega)
    obtain ⟨C5, N5, f5, o5, p5, t5, W5⟩ := app_ch (x := 47) W4 (by omega) (by decide)
    obtain ⟨C6, N6, f6, o6, p6, t6, W6⟩ := app_nu (s := 0) W5 dL (Or.inl ⟨gL, rfl, xL⟩) (by omega)
    have R0 := rd _ (NF_r 0 _)
    have R3 := rd _ W3.2.2.2.2
    have R5 := rd _ W5.2.2.2.2
    have R6 := rd _ W6.2.2.2.2
    have K0 := (cl _ g0).1
    have K3 := (cl _ W3.2.2.2.1).2.1
    have K5 := (cl _ W5.2.2.2.1).2.2.1
    have K6 := (cl _ W6.2.2.2.1).2.2.2
    have hL6 : 0 + 1 + 0 + (0 + 1) + 1 + s + (D + 1) + 1 + 0 + (E + 1) < 16 := by omega
    clear rd cl
    generalize 0 + 1 + 0 + (0 + 1) + 1 + s + (D + 1) + 1 + 0 + (E + 1) = L6 at hL6 W6 p6
    obtain ⟨C7, N7, f7, o7, p7, t7, W7⟩ := app_ch (x := 42) W6 hL6 (by decide)
    have f3 : f_J4_append_cf468 C2 58 = C3 := f3
    have f5 : f_J4_append_cf468 C4 47 = C5 := f5
    have f7 : f_J4_append_cf468 C6 42 = C7 := f7
    have len : ∀ (C : StB) (L : Nat), bi C 191 3 = Int32.ofNat L → f_J4_length_8abf5 C = Int32.ofNat L := by
      intro C L h
      unfold f_J4_length_8abf5 f_J5_length_8abf5
      rw [nm_eq]
      exact h
    have ef : f_X6_writeStatement B (Int32.ofNat i) = if ma M 0 (15 + 4 * i) = 0 then (0, Int32.ofNat L6, C6) else (0, Int32.ofNat (L6 + 1), C7) := by
      unfold f_X6_writeStatement
      rw [nm_eq, r1 hx]
      show (if 0 = 0 then nm (f_J4_setLength_d00df B 0) _ else _) = _
      rw [if_pos rfl, nm_eq, f0, xi, K0, ek, nm_eq, k1, nm_eq, f1, nm_eq, f2, nm_eq, f3, nm_eq, K3, f4, nm_eq, f5, nm_eq, K5, f6, K6, nm_eq, len C6 L6 W6.1, nm_eq, f7, nm_eq, len C7 _ W7.1]
    have oc : ok_X6_writeStatement B (Int32.ofNat i) := by
      intro z hz _
      have ez : z = (0, 0, B) := hz.trans (r1 hx)
      rw [ez]
      refine ⟨o0, ?_⟩
      intro B3 h3
      have e3 : B3 = C0 := h3.trans f0
      rw [e3, xi, K0, ek]
      refine ⟨vi, kchok 0 kd (by decide) k4, ?_⟩
      intro r6 h6
      have e6 : r6 = Int32.ofNat (lk kd) := h6.trans k1
      rw [e6]
      refine ⟨o1, ?_⟩
      intro B8 h8
      rw [h8, f1]
      refine ⟨o2, ?_⟩
      intro B10 h10
      rw [h10, f2]
      refine ⟨o3, ?_⟩
      intro B12 h12
      rw [h12, f3, K3]
      refine ⟨vi, o4, ?_⟩
      intro B15 h15
      rw [h15, f4]
      refine ⟨o5, ?_⟩
      intro B17 h17
      rw [h17, f5, K5]
      refine ⟨vi, o6, ?_⟩
      intro B20 h20
      rw [h20, f6, K6]
      exact ⟨vi, fun _ => trivial, fun _ => o7⟩
    have em : f_X7_writeStatement M (Int32.ofNat i) = if ma M 0 (15 + 4 * i) = 1 then (Int32.ofNat (L6 + 1), smi N7 14 (Int32.ofNat (L6 + 1))) else (Int32.ofNat L6, smi N6 14 (Int32.ofNat L6)) := by
      unfold f_X7_writeStatement
      rw [nm_eq, m1 hx, nm_eq, goes_1]
      show (if (1 : Int32) = 0 then _ else nm (f_X7_of (smi M 15 0) (Int32.ofNat i) 0) _) = _
      rw [if_neg (by decide), nm_eq, R0.1, ek, nm_eq, k2, nm_eq]
      rw [show f_X7_put ((1 : Int32), smi M 15 0).2 0 (Int32.ofNat (lk kd)) = _ from p1, nm_eq]
      rw [show f_X7_writesNumber (Int32.ofNat (0 + 1), N1).2 (Int32.ofNat (0 + 1), N1).1 (Int32.ofNat i) = _ from p2, nm_eq]
      rw [show f_X7_put (Int32.ofNat (0 + 1 + 0 + (0 + 1)), N2).2 (Int32.ofNat (0 + 1 + 0 + (0 + 1)), N2).1 58 = _ from p3, nm_eq]
      show nm (f_X7_writesNumber N3 (Int32.ofNat (0 + 1 + 0 + (0 + 1) + 1)) (f_X7_of N3 (Int32.ofNat i) 1)) _ = _
      rw [R3.2.2.1, p4, nm_eq]
      show nm (f_X7_put N4 (Int32.ofNat (0 + 1 + 0 + (0 + 1) + 1 + s + (D + 1))) (Int32.ofNat 47)) _ = _
      rw [p5, nm_eq]
      show nm (f_X7_of N5 (Int32.ofNat i) 2) _ = _
      rw [nm_eq, R5.2.2.2.2.1]
      show nm (f_X7_writesNumber N5 (Int32.ofNat (0 + 1 + 0 + (0 + 1) + 1 + s + (D + 1) + 1)) (ma M 0 (14 + 4 * i))) _ = _
      rw [p6, nm_eq]
      show nm (f_X7_of N6 (Int32.ofNat i) 3) _ = _
      rw [nm_eq, R6.2.2.2.2.2.2.1]
      by_cases c : ma M 0 (15 + 4 * i) = 1
      · rw [if_pos c, if_pos c]
        show nm (f_X7_put N6 (Int32.ofNat L6) (Int32.ofNat 42)) _ = _
        rw [p7, nm_eq, nm_eq]
        show (mi (smi N7 14 (Int32.ofNat (L6 + 1))) 14, smi N7 14 (Int32.ofNat (L6 + 1))) = _
        rw [mi_smi, if_pos rfl]
      · rw [if_neg c, if_neg c, nm_eq]
        show (mi (smi N6 14 (Int32.ofNat L6)) 14, smi N6 14 (Int32.ofNat L6)) = _
        rw [mi_smi, if_pos rfl]
    have om : ok_X7_writeStatement M (Int32.ofNat i) := by
      refine ⟨okisAcc _ _, ?_⟩
      intro r hr
      rw [hr, m1 hx]
      refine ⟨okgoes (Or.inr rfl), ?_⟩
      intro z4 h4
      rw [h4.trans (goes_1 M)]
      refine ⟨fun h9 => absurd (show (1 : Int32) = 0 from h9) (by decide), fun _ => ⟨R0.2.1, ?_⟩⟩
      intro r7 h7
      rw [h7.trans (R0.1.trans ek)]
      intro r8 h8
      rw [h8.trans k2]
      refine ⟨t1, ?_⟩
      intro z10 h10
      rw [h10.trans p1]
      refine ⟨t2, ?_⟩
      intro z12 h12
      rw [h12.trans p2]
      refine ⟨t3, ?_⟩
      intro z14 h14
      rw [h14.trans p3]
      refine ⟨R3.2.2.2.1, ?_⟩
      intro r16 h16
      rw [h16.trans R3.2.2.1]
      refine ⟨t4, ?_⟩
      intro z18 h18
      rw [h18.trans p4]
      refine ⟨t5, ?_⟩
      intro z20 h20
      rw [h20.trans p5]
      refine ⟨R5.2.2.2.2.2.1, ?_⟩
      intro r22 h22
      rw [h22.trans R5.2.2.2.2.1]
      refine ⟨t6, ?_⟩
      intro z24 h24
      rw [h24.trans p6]
      refine ⟨R6.2.2.2.2.2.2.2, ?_⟩
      intro r26 h26
      exact ⟨fun _ => t7, fun _ => trivial⟩
    rw [ef, em]
    rcases A3 with c | c
    · rw [if_pos c, if_neg (by rw [c]; decide)]
      exact ⟨⟨oc, Or.inl rfl, om, by show mi (smi N6 14 (Int32.ofNat L6)) 15 = 0; rw [mi_smi, if_neg (by decide), W6.2.2.2.2.1 15, mi_smi, if_pos rfl], fun _ => rfl⟩, hW L6 C6 N6 W6 (by omega)⟩
    · rw [if_neg (by rw [c]; decide), if_pos c]
      exact ⟨⟨oc, Or.inl rfl, om, by show mi (smi N7 14 (Int32.ofNat (L6 + 1))) 15 = 0; rw [mi_smi, if_neg (by decide), W7.2.2.2.2.1 15, mi_smi, if_pos rfl], fun _ => rfl⟩, hW (L6 + 1) C7 N7 W7 (by omega)⟩
  · have ef : f_X6_writeStatement B y1 = (1, 0, B) := by
      unfold f_X6_writeStatement
      rw [nm_eq, r0 hx]
      rfl
    have em : f_X7_writeStatement M y1 = (0, smi M 15 1) := by
      unfold f_X7_writeStatement
      rw [nm_eq, m0 hx, nm_eq, goes_0]
      rfl
    have om : ok_X7_writeStatement M y1 := by
      refine ⟨okisAcc _ _, ?_⟩
      intro r hr
      rw [hr, m0 hx]
      refine ⟨okgoes (Or.inl rfl), ?_⟩
      intro z hz
      rw [hz, goes_0]
      exact ⟨fun _ => trivial, fun h9 => absurd rfl h9⟩
    rw [ef, em]
    refine ⟨⟨?_, Or.inr rfl, om, rfl, fun h => absurd (show (1 : Int32) = 0 from h) (by decide)⟩, hN 1⟩
    intro z hz h0
    rw [hz, r0 hx] at h0
    exact absurd (show (1 : Nat) = 0 from h0) (by decide)
