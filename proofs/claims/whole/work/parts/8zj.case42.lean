/-! the pure part: a typed program, the case -/
theorem ex_M {M : StM} (d1 : ok_X7_readsAll M) (d2 : ∀ j, j ≠ 12 → j ≠ 16 → j ≠ 17 → j ≠ 18 → j ≠ 19 → mi (f_X7_readsAll M) j = mi M j) (d3 : mi (f_X7_readsAll M) 12 = 0) (d4 : ∀ q k, q ≠ 7 → ma (f_X7_readsAll M) q k = ma M q k) (w1 : mi (f_X7_readsAll M) 18 = -1) : ∃ M6, f_X7_execute M = f_X7_execute_L38 fu M6 0 ∧ (ok_X7_execute_L38 fu M6 0 → ok_X7_execute M) ∧ ma M6 0 = ma M 0 ∧ (∀ k, ma M6 7 k = ma (f_X7_readsAll M) 7 k) ∧ mi M6 19 = mi (f_X7_readsAll M) 19 ∧ mi M6 15 = 0 ∧ (∀ j, j ≠ 12 → j ≠ 15 → j ≠ 16 → j ≠ 17 → j ≠ 18 → j ≠ 19 → mi M6 j = mi M j) ∧ mi M6 12 = 0 ∧ (∀ k, k < 124 → ma M6 1 k = ma M 0 k) ∧ (∀ q k, q ≠ 1 → q ≠ 7 → ma M6 q k = ma M q k) := by
  obtain ⟨b1, b2, b3⟩ := beg_M (f_X7_readsAll M)
  have r0 : ∀ k, k < 124 → ma (f_X7_begins (f_X7_readsAll M)) 1 k = ma M 0 k := by
    intro k hk
    rw [b1, ma_mcp, if_pos (by omega), d4 0 _ (by decide)]
    exact congrArg (ma M 0) (by omega)
  have rq : ∀ q k, q ≠ 1 → ma (f_X7_begins (f_X7_readsAll M)) q k = ma (f_X7_readsAll M) q k := by
    intro q k hq
    rw [b1, ma_mcp, if_neg (by omega)]
  have rm : ∀ k, mi (f_X7_begins (f_X7_readsAll M)) k = mi (f_X7_readsAll M) k := fun k => by rw [b1, mi_mcp]
  refine ⟨smi (f_X7_begins (f_X7_readsAll M)) 15 0, ?_, ?_, ?_, ?_, ?_, ?_, ?_, ?_, ?_, ?_⟩
  · unfold f_X7_execute
    rw [nm_eq, if_pos w1, nm_eq, nm_eq]
  · intro ho
    refine ⟨d1, ?_⟩
    intro z hz
    rw [hz]
    refine ⟨fun _ => ⟨b2, ?_⟩, fun h9 => absurd w1 h9⟩
    intro y hy x hx
    rw [hx, hy]
    exact ho
  · funext k
    rw [ma_smi, rq 0 k (by decide), d4 0 k (by decide)]
  · intro k
    rw [ma_smi, rq 7 k (by decide)]
  · rw [mi_smi, if_neg (by decide), rm]
  · rw [mi_smi, if_pos rfl]
  · intro j h1 h2 h3 h4 h5 h6
    rw [mi_smi, if_neg h2, rm]
    exact d2 j h1 h3 h4 h5 h6
  · rw [mi_smi, if_neg (by decide), rm]
    exact d3
  · intro k hk
    rw [ma_smi, r0 k hk]
  · intro q k h1 h7
    rw [ma_smi, rq q k h1]
    exact d4 q k h7
theorem ex_C {N : Nat} {B Z B6 : StB} {z15 : Int32 × StB} (oc : ok_X4_countCommands B) (c2 : f_X4_countCommands B = (Int32.ofNat N, Z)) (hN : N < 100) (k1 : ok_X3_copyFrom 16 0 Z) (h6 : B6 = sbi (f_X3_copyFrom 16 0 Z) 179 2 0) (o1 : ok_X6_execute_L60 fu B6 (Int32.ofNat N) 0) (h15 : z15 = f_X6_execute_L60 fu B6 (Int32.ofNat N) 0) : (Int32.ofNat N ≤ z15.1 → f_X6_execute B = (0, Int32.ofNat N, f_X3_copyFrom 0 16 (f_X1_remember 0 (sbi z15.2 179 1 0))) ∧ (ok_X1_remember 0 (sbi z15.2 179 1 0) → ok_X3_copyFrom 0 16 (f_X1_remember 0 (sbi z15.2 179 1 0)) → ok_X6_execute B)) ∧ (¬ Int32.ofNat N ≤ z15.1 → f_X6_execute B = (4, 0, sbi (sbi z15.2 179 1 0) 176 9 z15.1) ∧ ok_X6_execute B) := by
  have ge0 : (0 : Int32) ≤ Int32.ofNat N := by
    rw [show (0 : Int32) = Int32.ofNat 0 from rfl, le_ofN (by omega) (by omega)]
    omega
  have oo : (Int32.ofNat N ≤ z15.1 → ok_X1_remember 0 (sbi z15.2 179 1 0) ∧ ok_X3_copyFrom 0 16 (f_X1_remember 0 (sbi z15.2 179 1 0))) → ok_X6_execute B := by
    intro o2
    refine ⟨oc, ?_⟩
    intro z hz
    have hz' : z = (Int32.ofNat N, Z) := hz.trans c2
    rw [hz']
    refine ⟨fun _ => ⟨k1, ?_⟩, fun h9 => absurd ge0 h9⟩
    intro B5 h5 B6' h6'
    have e6 : B6' = B6 := by rw [h6', h5, h6]
    rw [e6]
    refine ⟨o1, ?_⟩
    intro y hy B16 h16
    have ey : y = z15 := hy.trans h15.symm
    rw [h16, ey]
    refine ⟨fun hle => ⟨(o2 hle).1, ?_⟩, fun _ => trivial⟩
    intro B19 h19
    rw [h19]
    exact (o2 hle).2
  refine ⟨fun hle => ⟨?_, fun p1 p2 => oo (fun _ => ⟨p1, p2⟩)⟩, fun hle => ⟨?_, oo (fun h9 => absurd h9 hle)⟩⟩
  · unfold f_X6_execute
    rw [nm_eq, c2, if_pos ge0, nm_eq, nm_eq, ← h6, nm_eq, ← h15, nm_eq, if_pos hle, nm_eq, nm_eq]
  · unfold f_X6_execute
    rw [nm_eq, c2, if_pos ge0, nm_eq, nm_eq, ← h6, nm_eq, ← h15, nm_eq, if_neg hle, nm_eq]
theorem case_42 {u : Nat} {B : StB} {M : StM} (hI : Inv u B M) (hu : u < 512) (O : StO) : okc_42 B M O ∧ Inv (u + 1) (stB_42 B M O) (stM_42 B M O) := by
  obtain ⟨e, ty, he, hu2, hL, hS, hH, hE, hR, hT⟩ := hI
  obtain ⟨t1, t2, t3, t4⟩ := hR
  have hTc : ∀ k, k < ty → 32 ≤ (ma M 5 k).toInt ∧ (ma M 5 k).toInt ≤ 126 := fun k hk => (t4 k hk).2
  have gB1 : Fg 179 182 B (sbi B 179 2 0) := Fg_i (Fg_r _ _ _) _ _ (by omega) (by omega)
  have hRd : RdB (ma M 5) ty (sbi B 179 2 0) 0 := by
    refine ⟨t1, by omega, ?_, ?_, fun k hk => (t4 k hk).1⟩
    · rw [bi_sbi, if_neg (by omega)]
      exact t2
    · rw [bi_sbi, if_pos ⟨rfl, rfl⟩]
      rfl
  have hfu : 60 < fu := by unfold fu; omega
  have hfu9 : 20 < fu := by unfold fu; omega
  obtain ⟨c1, c2, c3, c4, c5, c6⟩ := cntC hTc 60 fu 0 0 (sbi B 179 2 0) (by omega) hfu (Nat.le_refl 0) hRd
  clear hfu
  obtain ⟨d1, d2, d3, d4, d5, d6⟩ := allM (T := ma M 5) t1 t3 (fun _ _ => rfl)
  have ec : f_X4_countCommands B = f_X4_countCommands_L7 fu (sbi B 179 2 0) 0 := by
    unfold f_X4_countCommands
    rw [nm_eq]
  have oc : ok_X4_countCommands B := by
    intro B1 hB1
    rw [hB1]
    exact c1
  have c0 : (Int32.ofNat 0) = 0 := rfl
  rw [c0, ← ec] at c2 c3 c4
  clear c1 ec
  obtain ⟨z, hz⟩ : ∃ z, z = f_X4_countCommands B := ⟨_, rfl⟩
  rw [← hz] at c2 c3 c4
  have gC := GF_179 (Fg_t gB1 c4)
  by_cases hok : (pg (ma M 5) ty 61 0 0).1 = true
  · obtain ⟨w1, w2, w3, w4, w5⟩ := d5 hok
    rw [if_pos hok] at c2
    generalize (pg (ma M 5) ty 61 0 0).2.1 = N at c2 w2 w3 w4 w5 c6
    generalize (pg (ma M 5) ty 61 0 0).2.2 = pe at c3
    obtain ⟨M6, em, om, m0, m7, m19, m15, mj, m12, ma1, maq⟩ := ex_M d1 d2 d3 d4 w1
    have hp := HP_cong N 0 0 (fun i _ => m7 i) w5
    rw [w2] at m19
    clear d6 d1 d2 d3 d4 w1 w2 w5 d5 m7
    have hLz := gC.2.2 e 0 _ (Or.inl rfl) (by omega) hL
    obtain ⟨n, t, lT, lR⟩ := hLz
    obtain ⟨k1, k2, k3⟩ := copy_C (p := 16) lT lR.1 (by omega)
    obtain ⟨B6, h6⟩ : ∃ B6, B6 = sbi (f_X3_copyFrom 16 0 z.2) 179 2 0 := ⟨_, rfl⟩
    have gB6 : Fg 179 182 (f_X3_copyFrom 16 0 z.2) B6 := by
      rw [h6]
      exact Fg_i (Fg_r _ _ _) _ _ (by omega) (by omega)
    have g6 := GF_t gC (GF_t (GF_16 k2) (GF_179 gB6))
    have lT6 := Ti_Fg k3 gB6 (by omega)
    have f1 : bi B6 179 1 = Int32.ofNat ty := by
      rw [h6, bi_sbi, if_neg (by omega), (k2.2 179 1 (by omega)).1]
      exact c3.2.2.1
    have f2 : bi B6 179 2 = Int32.ofNat 0 := by
      rw [h6, bi_sbi, if_pos ⟨rfl, rfl⟩]
      rfl
    have f3 : ∀ k, k < ty → ba B6 180 k = ma M 5 k := by
      intro k hk
      rw [h6, ba_sbi, (k2.2 180 k (by omega)).2.2]
      exact c3.2.2.2.2 k hk
    rw [← m0] at lT6 lR
    obtain ⟨x1, x2, x3⟩ := L_exec t1 hTc N fu fu 0 0 e n t B6 M6 hp (by omega) (by omega) (by omega) lT6 lR (by omega) f1 f2 f3 (by rw [Nat.zero_add]; exact m19) m15
    clear hfu9
    rw [Nat.zero_add, c0] at x1 x2 x3
    obtain ⟨z15, h15⟩ : ∃ z15, z15 = f_X6_execute_L60 fu B6 (Int32.ofNat N) 0 := ⟨_, rfl⟩
    rw [← h15] at x2 x3
    have hzp : f_X4_countCommands B = (Int32.ofNat N, z.2) := by
      rw [← hz, ← c2]
    obtain ⟨X1, X2⟩ := ex_C oc hzp (by omega) k1 h6 x1 h15
    have gD : Fg 179 182 z15.2 (sbi z15.2 179 1 0) := Fg_i (Fg_r _ _ _) _ _ (by omega) (by omega)
    have gAll := GF_t g6 (GF_t x2 (GF_179 gD))
    have t0 : bi (sbi z15.2 179 1 0) 179 1 = Int32.ofNat 0 := by
      rw [bi_sbi, if_pos ⟨rfl, rfl⟩]
      rfl
    clear x1 h15 hzp h6 hz oc gB6 c3 c4 k3 f1 f2 f3
    unfold okc_42 stB_42 stM_42
    rw [em]
    rcases x3 with ⟨y1, n', t', M', y2, y3, y4, y5, y6, y7, y8⟩ | ⟨i, y1, y2, y3, M', y4, y5, y6, y7, y8⟩
    · have hle : Int32.ofNat N ≤ z15.1 := by
        rw [y1]
        exact (le_ofN (by omega) (by omega)).mpr (Nat.le_refl N)
      obtain ⟨eC, oC⟩ := X1 hle
      have lD : LR (e + N) (sbi z15.2 179 1 0) 16 (ma M' 0) := ⟨n', t', Ti_Fg y2 gD (by omega), y3⟩
      obtain ⟨E1, E2, E3, E4, E5, E6⟩ := exec_ok (N := N) (Int32.ofNat N) he hu w3 w4 hL hS hH hE hT gAll t0 lD y4 (fun j h1 h2 h3 h4 h5 h6 h7 => (y5 j h3 h1).trans (mj j h2 h3 h4 h5 h6 h7)) ((y5 12 (by decide) (by decide)).trans m12) (fun q k h0 h1 h7 => (y6 q k h0).trans (maq q k h1 h7)) (fun k hk => (y6 1 k (by decide)).trans (ma1 k hk))
      rw [y7, eC]
      exact ⟨⟨oC E1 E2, Or.inl rfl, om (y8 E3), E5, fun _ => by rw [E4]; rfl⟩, E6⟩
    · have hle : ¬ Int32.ofNat N ≤ z15.1 := by
        rw [y2, le_ofN (by omega) (by omega)]
        omega
      obtain ⟨eC, oC⟩ := X2 hle
      rw [y4, eC, y2]
      have gE : Fg 176 177 (sbi z15.2 179 1 0) (sbi (sbi z15.2 179 1 0) 176 9 (Int32.ofNat i)) := Fg_i (Fg_r _ _ _) _ _ (by omega) (by omega)
      refine ⟨⟨oC, Or.inr (Or.inr rfl), om y3, y6, fun h => absurd (show (2 : Int32) = 0 from h) (by decide)⟩, ?_⟩
      show Inv (u + 1) (sbi (sbi z15.2 179 1 0) 176 9 (Int32.ofNat i)) (mcp M' 1 0 0 0 124)
      refine exec_no he hu hL hS hH ?_ hT ⟨gE.1.trans gAll.1, fun q k hq => ?_⟩ ?_ (fun e q R h1 h2 h3 => LR_Fg (gAll.2.2 e q R h1 (by omega) h3) gE (by omega)) ?_ ?_ ?_ ?_ ?_
      · obtain ⟨v1, v2, v3, v4, v5⟩ := hE
        have w8 : bi (sbi (sbi z15.2 179 1 0) 176 9 (Int32.ofNat i)) 176 8 = bi B 176 8 := by
          rw [bi_sbi, if_neg (by omega)]
          exact (gAll.2.1 176 8 (by omega)).1
        have w9 : bi (sbi (sbi z15.2 179 1 0) 176 9 (Int32.ofNat i)) 176 9 = Int32.ofNat i := by
          rw [bi_sbi, if_pos ⟨rfl, rfl⟩]
        refine ⟨?_, ?_, by rw [w8]; exact v3, ?_, ?_⟩
        · rw [w8]
          show mi (mcp M' 1 0 0 0 124) 7 = _
          rw [mi_mcp, y7 7 (by decide) (by decide) (by decide), mj 7 (by decide) (by decide) (by decide) (by decide) (by decide) (by decide)]
          exact v1
        · rw [w9]
          show mi (mcp M' 1 0 0 0 124) 8 = _
          rw [mi_mcp]
          exact y5
        · rw [w9, ofN_toInt (by omega)]
          omega
        · show mi (mcp M' 1 0 0 0 124) 9 = _
          rw [mi_mcp, y7 9 (by decide) (by decide) (by decide), mj 9 (by decide) (by decide) (by decide) (by decide) (by decide) (by decide)]
          exact v5
      · have h1 := gE.2 q k (by omega)
        have h2 := gAll.2.1 q k (by omega)
        exact ⟨h1.1.trans h2.1, h1.2.1.trans h2.2.1, h1.2.2.trans h2.2.2⟩
      · rw [bi_sbi, if_neg (by omega)]
        exact (gAll.2.1 176 7 (by omega)).1
      · rw [bi_sbi, if_neg (by omega)]
        exact t0
      · intro j hj
        show mi (mcp M' 1 0 0 0 124) j = _
        rw [mi_mcp, y7 j (by omega) (by omega) (by omega), mj j (by omega) (by omega) (by omega) (by omega) (by omega) (by omega)]
      · show mi (mcp M' 1 0 0 0 124) 12 = _
        rw [mi_mcp, y7 12 (by decide) (by decide) (by decide)]
        exact m12
      · intro q k h0 h1 h7
        show ma (mcp M' 1 0 0 0 124) q k = _
        rw [ma_mcp, if_neg (by omega), y8 q k h0, maq q k h1 h7]
      · intro k hk
        show ma (mcp M' 1 0 0 0 124) 0 k = _
        rw [ma_mcp, if_pos (by omega), y8 1 _ (by decide), ma1 _ (by omega)]
        exact congrArg (ma M 0) (by omega)
  · have hok' : (pg (ma M 5) ty 61 0 0).1 = false := by
      cases h : (pg (ma M 5) ty 61 0 0).1
      · rfl
      · exact absurd h hok
    obtain ⟨q, w1, w2, w3⟩ := d6 hok'
    rw [if_neg hok] at c2
    rw [w3] at c3
    have hne : ¬ mi (f_X7_readsAll M) 18 = -1 := by
      rw [w2]
      exact ne1 (by omega)
    have em : f_X7_execute M = (0, smi (smi (f_X7_readsAll M) 7 (Int32.ofNat q)) 15 1) := by
      unfold f_X7_execute
      rw [nm_eq, if_neg hne, nm_eq, nm_eq, w2]
    have om : ok_X7_execute M := by
      refine ⟨d1, ?_⟩
      intro y hy
      rw [hy]
      exact ⟨fun h9 => absurd h9 hne, fun _ => trivial⟩
    have hlt : ¬ (0 : Int32) ≤ (f_X4_countCommands B).1 := by
      rw [← hz, c2]
      decide
    have eC : f_X6_execute B = (2, 0, sbi (sbi z.2 176 8 (Int32.ofNat q)) 179 1 0) := by
      unfold f_X6_execute
      rw [nm_eq, if_neg hlt, nm_eq, nm_eq, ← hz, c3.2.2.2.1]
    have oC : ok_X6_execute B := by
      refine ⟨oc, ?_⟩
      intro y hy
      rw [hy]
      exact ⟨fun h9 => absurd h9 hlt, fun _ => trivial⟩
    unfold okc_42 stB_42 stM_42
    rw [em, eC]
    have gE : Fg 176 177 z.2 (sbi z.2 176 8 (Int32.ofNat q)) := Fg_i (Fg_r _ _ _) _ _ (by omega) (by omega)
    have gE2 : Fg 179 182 (sbi z.2 176 8 (Int32.ofNat q)) (sbi (sbi z.2 176 8 (Int32.ofNat q)) 179 1 0) := Fg_i (Fg_r _ _ _) _ _ (by omega) (by omega)
    refine ⟨⟨oC, Or.inr (Or.inl rfl), om, rfl, fun h => absurd (show (1 : Int32) = 0 from h) (by decide)⟩, ?_⟩
    show Inv (u + 1) (sbi (sbi z.2 176 8 (Int32.ofNat q)) 179 1 0) (smi (smi (f_X7_readsAll M) 7 (Int32.ofNat q)) 15 1)
    refine exec_no he hu hL hS hH ?_ hT ⟨gE2.1.trans (gE.1.trans gC.1), fun p k hp => ?_⟩ ?_ (fun e p R h1 h2 h3 => LR_Fg (LR_Fg (gC.2.2 e p R h1 (by omega) h3) gE (by omega)) gE2 (by omega)) ?_ ?_ ?_ ?_ ?_
    · obtain ⟨v1, v2, v3, v4, v5⟩ := hE
      have w8 : bi (sbi (sbi z.2 176 8 (Int32.ofNat q)) 179 1 0) 176 8 = Int32.ofNat q := by
        rw [bi_sbi, if_neg (by omega), bi_sbi, if_pos ⟨rfl, rfl⟩]
      have w9 : bi (sbi (sbi z.2 176 8 (Int32.ofNat q)) 179 1 0) 176 9 = bi B 176 9 := by
        rw [bi_sbi, if_neg (by omega), bi_sbi, if_neg (by omega)]
        exact (gC.2.1 176 9 (by omega)).1
      refine ⟨?_, ?_, ?_, by rw [w9]; exact v4, ?_⟩
      · rw [w8]
        show mi (smi (smi (f_X7_readsAll M) 7 (Int32.ofNat q)) 15 1) 7 = _
        rw [mi_smi, if_neg (by decide), mi_smi, if_pos rfl]
      · rw [w9]
        show mi (smi (smi (f_X7_readsAll M) 7 (Int32.ofNat q)) 15 1) 8 = _
        rw [mi_smi, if_neg (by decide), mi_smi, if_neg (by decide), d2 8 (by decide) (by decide) (by decide) (by decide) (by decide)]
        exact v2
      · rw [w8, ofN_toInt (by omega)]
        omega
      · show mi (smi (smi (f_X7_readsAll M) 7 (Int32.ofNat q)) 15 1) 9 = _
        rw [mi_smi, if_neg (by decide), mi_smi, if_neg (by decide), d2 9 (by decide) (by decide) (by decide) (by decide) (by decide)]
        exact v5
    · have h1 := gE2.2 p k (by omega)
      have h2 := gE.2 p k (by omega)
      have h3 := gC.2.1 p k (by omega)
      exact ⟨h1.1.trans (h2.1.trans h3.1), h1.2.1.trans (h2.2.1.trans h3.2.1), h1.2.2.trans (h2.2.2.trans h3.2.2)⟩
    · rw [bi_sbi, if_neg (by omega), bi_sbi, if_neg (by omega)]
      exact (gC.2.1 176 7 (by omega)).1
    · rw [bi_sbi, if_pos ⟨rfl, rfl⟩]
      rfl
    · intro j hj
      show mi (smi (smi (f_X7_readsAll M) 7 (Int32.ofNat q)) 15 1) j = _
      rw [mi_smi, if_neg (by omega), mi_smi, if_neg (by omega), d2 j (by omega) (by omega) (by omega) (by omega) (by omega)]
    · show mi (smi (smi (f_X7_readsAll M) 7 (Int32.ofNat q)) 15 1) 12 = _
      rw [mi_smi, if_neg (by decide), mi_smi, if_neg (by decide)]
      exact d3
    · intro p k h0 h1 h7
      show ma (smi (smi (f_X7_readsAll M) 7 (Int32.ofNat q)) 15 1) p k = _
      rw [ma_smi, ma_smi, d4 p k h7]
    · intro k hk
      show ma (smi (smi (f_X7_readsAll M) 7 (Int32.ofNat q)) 15 1) 0 k = _
      rw [ma_smi, ma_smi, d4 0 k (by decide)]
