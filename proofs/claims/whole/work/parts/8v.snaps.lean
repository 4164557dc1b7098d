/-! the pure part: undo, snapshots, what is told ahead -/
theorem F40 (M : StM) (j : Nat) (hj : j < 8) : f_X7_copies_M4_M0 M (Int32.ofNat j * 124) 0 = mcp M 4 (j * 124) 0 0 124 ∧ ok_X7_copies_M4_M0 M (Int32.ofNat j * 124) 0 := by
  have e : Int32.ofNat j * 124 = Int32.ofNat (j * 124) := by
    rw [Int32.ofNat_mul]
    rfl
  rw [e, show (0 : Int32) = Int32.ofNat 0 from rfl]
  exact F_copies_M4_M0 M (j * 124) 0 (by omega) (by omega)
theorem case_45 {u : Nat} {B : StB} {M : StM} (hI : Inv u B M) (hu : u < 512) (O : StO) : okc_45 B M O ∧ Inv (u + 1) (stB_45 B M O) (stM_45 B M O) := by
  have hN := fun v => Inv_15 hI hu v
  obtain ⟨e, ty, he, hu2, hL, hS, ⟨hl, hn, a1, a2, a3, a4, a5, a6⟩, hE, hRd, hTt⟩ := hI
  unfold okc_45 stB_45 stM_45
  by_cases h0 : hl = 0
  · subst h0
    have w1 : ¬ (1 : Int32) ≤ bi B 177 0 := by
      rw [a3]
      decide
    have w0 : mi M 6 ≤ 0 := by
      rw [a4]
      decide
    have ef : f_X6_undo B = (4, 0, B) := by
      unfold f_X6_undo
      rw [if_neg w1]
    have em : f_X7_undo M = (0, smi M 15 1) := by
      unfold f_X7_undo
      rw [if_pos w0]
      unfold f_X7_undo_J13
      rw [nm_eq, goes_0]
      rfl
    have om : ok_X7_undo M := by
      refine ⟨fun _ => ⟨okgoes (Or.inl rfl), ?_⟩, fun h9 => absurd w0 h9⟩
      intro z hz
      rw [hz, goes_0]
      exact ⟨fun _ => trivial, fun h9 => absurd rfl h9⟩
    rw [ef, em]
    exact ⟨⟨⟨fun h9 => absurd h9 w1, fun _ => trivial⟩, Or.inr rfl, om, rfl, fun h => absurd (show (1 : Int32) = 0 from h) (by decide)⟩, hN 1⟩
  · have w1 : (1 : Int32) ≤ bi B 177 0 := by
      rw [a3, show (1 : Int32) = Int32.ofNat 1 from rfl, le_ofN (by omega) (by omega)]
      omega
    have w0 : ¬ mi M 6 ≤ 0 := by
      rw [a4, show (0 : Int32) = Int32.ofNat 0 from rfl, le_ofN (by omega) (by omega)]
      omega
    have hx : ix (bi B 177 1) = hn := by
      rw [a5]
      exact ix_o (by omega)
    have hv : vp_in (bi B 177 1) 8 := by
      rw [a5]
      exact in_o a2 (by omega)
    have h00 := a6 0 (by omega)
    rw [show (hn + 8 - 0) % 8 = hn by omega] at h00
    obtain ⟨c1, c2, c3, c4⟩ := LR_copy h00 (p := 0) (by omega)
    have fm := (fmod8 a2).2
    generalize hC : f_X3_copyFrom 0 (48 + 16 * hn) B = C at c1 c2 c3 c4
    have k0 : bi C 177 0 = Int32.ofNat hl := (c2.2 177 0 (by omega)).1.trans a3
    have k1 : bi C 177 1 = Int32.ofNat hn := (c2.2 177 1 (by omega)).1.trans a5
    have ef : f_X6_undo B = (0, Int32.ofNat (hl - 1), sbi (sbi C 177 1 (Int32.ofNat ((hn + 7) % 8))) 177 0 (Int32.ofNat (hl - 1))) := by
      unfold f_X6_undo
      rw [if_pos w1, nm_eq]
      unfold f_X1_takeBack
      rw [hx, hC, nm_eq, k1, fm, nm_eq, nm_eq]
      have : bi (sbi C 177 1 (Int32.ofNat ((hn + 7) % 8))) 177 0 = Int32.ofNat hl := by
        rw [bi_sbi, if_neg (by omega)]
        exact k0
      rw [this, osu1 (by omega), nm_eq, bi_sbi, if_pos ⟨rfl, rfl⟩]
    have ok6 : ok_X6_undo B := by
      refine ⟨fun _ => ?_, fun h9 => absurd w1 h9⟩
      refine ⟨hv, ?_⟩
      rw [hx, hC]
      exact ⟨c1, fun _ _ => by unfold ok_J9_floorMod_7cf53; decide⟩
    have g6 : mi (smi M 15 0) 6 = Int32.ofNat hl := by
      rw [mi_smi, if_neg (by decide)]
      exact a4
    have F := F40 (smi (smi M 15 0) 6 (Int32.ofNat (hl - 1))) (hl - 1) (by omega)
    have m6 : mi (smi (smi M 15 0) 6 (Int32.ofNat (hl - 1))) 6 = Int32.ofNat (hl - 1) := by rw [mi_smi, if_pos rfl]
    have em : f_X7_undo M = (Int32.ofNat (hl - 1), mcp (smi (smi M 15 0) 6 (Int32.ofNat (hl - 1))) 4 ((hl - 1) * 124) 0 0 124) := by
      unfold f_X7_undo
      rw [if_neg w0]
      unfold f_X7_undo_J13
      rw [nm_eq, goes_1]
      show (if (1 : Int32) = 0 then _ else nm (smi (smi M 15 0) 6 (mi (smi M 15 0) 6 - 1)) _) = _
      rw [if_neg (by decide), g6, osu1 (by omega), nm_eq, m6, F.1, nm_eq, mi_mcp, m6]
    have om : ok_X7_undo M := by
      refine ⟨fun h9 => absurd h9 w0, fun _ => ⟨okgoes (Or.inr rfl), ?_⟩⟩
      intro z hz
      rw [hz, goes_1]
      refine ⟨fun h9 => absurd (show (1 : Int32) = 0 from h9) (by decide), fun _ => ?_⟩
      intro z2 hz2
      have hz3 : z2 = smi (smi M 15 0) 6 (Int32.ofNat (hl - 1)) := by
        rw [hz2]
        show smi (smi M 15 0) 6 (mi (smi M 15 0) 6 - 1) = _
        rw [g6, osu1 (by omega)]
      rw [hz3, m6]
      exact F.2
    rw [ef, em]
    have g : Fg 177 178 C (sbi (sbi C 177 1 (Int32.ofNat ((hn + 7) % 8))) 177 0 (Int32.ofNat (hl - 1))) := Fg_i (Fg_i (Fg_r _ _ C) _ _ (by omega) (by omega)) _ _ (by omega) (by omega)
    have n0 : bi (sbi (sbi C 177 1 (Int32.ofNat ((hn + 7) % 8))) 177 0 (Int32.ofNat (hl - 1))) 177 0 = Int32.ofNat (hl - 1) := by rw [bi_sbi, if_pos ⟨rfl, rfl⟩]
    have n1 : bi (sbi (sbi C 177 1 (Int32.ofNat ((hn + 7) % 8))) 177 0 (Int32.ofNat (hl - 1))) 177 1 = Int32.ofNat ((hn + 7) % 8) := by
      rw [bi_sbi, if_neg (by omega), bi_sbi, if_pos ⟨rfl, rfl⟩]
    generalize sbi (sbi C 177 1 (Int32.ofNat ((hn + 7) % 8))) 177 0 (Int32.ofNat (hl - 1)) = D at g n0 n1
    have far : ∀ q k, 16 ≤ q → q ≠ 177 → bi D q k = bi B q k ∧ ba D q k = ba B q k := fun q k h1 h2 => ⟨(g.2 q k (by omega)).1.trans (c2.2 q k (by omega)).1, (g.2 q k (by omega)).2.2.trans (c2.2 q k (by omega)).2.2⟩
    have mq : ∀ q k, q ≠ 0 → ma (mcp (smi (smi M 15 0) 6 (Int32.ofNat (hl - 1))) 4 ((hl - 1) * 124) 0 0 124) q k = ma M q k := fun q k hq => by rw [ma_mcp, if_neg (by omega), ma_smi, ma_smi]
    have mm : ∀ j, j ≠ 15 → j ≠ 6 → mi (mcp (smi (smi M 15 0) 6 (Int32.ofNat (hl - 1))) 4 ((hl - 1) * 124) 0 0 124) j = mi M j := fun j h1 h2 => by rw [mi_mcp, mi_smi, if_neg h2, mi_smi, if_neg h1]
    have m0 : ∀ k, k < 124 → ma (mcp (smi (smi M 15 0) 6 (Int32.ofNat (hl - 1))) 4 ((hl - 1) * 124) 0 0 124) 0 k = ma M 4 (124 * (hl - 1 - 0) + k) := fun k hk => by
      rw [ma_mcp, if_pos (by omega), ma_smi, ma_smi]
      exact congrArg (ma M 4) (by omega)
    have mn6 : mi (mcp (smi (smi M 15 0) 6 (Int32.ofNat (hl - 1))) 4 ((hl - 1) * 124) 0 0 124) 6 = Int32.ofNat (hl - 1) := m6
    have mn15 : mi (mcp (smi (smi M 15 0) 6 (Int32.ofNat (hl - 1))) 4 ((hl - 1) * 124) 0 0 124) 15 = 0 := by
      rw [mi_mcp, mi_smi, if_neg (by decide), mi_smi, if_pos rfl]
    generalize mcp (smi (smi M 15 0) 6 (Int32.ofNat (hl - 1))) 4 ((hl - 1) * 124) 0 0 124 = N at mq mm m0 mn6 mn15
    refine ⟨⟨ok6, Or.inl rfl, om, mn15, fun _ => rfl⟩, e, ty, by omega, by omega, ?_, ?_, ?_, ?_, ?_, ?_⟩
    · exact LR_cong (LR_Fg c3 g (by omega)) m0
    · exact IvS_k hS (Nat.le_refl e) (by omega) (far 176 7 (by omega) (by omega)).1 (mm 5 (by decide) (by decide)) (fun k _ => mq 3 k (by decide)) (fun R h => LR_Fg (LR_Fg h c2 (by omega)) g (by omega))
    · refine ⟨hl - 1, (hn + 7) % 8, by omega, Nat.mod_lt _ (by decide), n0, mn6, n1, fun r hr => ?_⟩
      have hp : ((hn + 7) % 8 + 8 - r) % 8 = (hn + 8 - (r + 1)) % 8 := by omega
      rw [hp]
      have h0 := a6 (r + 1) (by omega)
      refine LR_cong (LR_Fg (LR_Fg h0 c2 (by omega)) g (by omega)) (fun k hk => ?_)
      show ma N 4 (124 * (hl - 1 - 1 - r) + k) = ma M 4 (124 * (hl - 1 - (r + 1)) + k)
      rw [mq 4 _ (by decide)]
      exact congrArg (ma M 4) (by omega)
    · exact IvE_k hE (far 176 8 (by omega) (by omega)).1 (far 176 9 (by omega) (by omega)).1 (mm 7 (by decide) (by decide)) (mm 8 (by decide) (by decide)) (mm 9 (by decide) (by decide))
    · exact IvR_k hRd (far 179 1 (by omega) (by omega)).1 (mm 12 (by decide) (by decide)) (fun k => (far 180 k (by omega) (by omega)).2) (fun k _ => mq 5 k (by decide))
    · exact IvT_k hTt (g.1.trans c2.1) (far 191 3 (by omega) (by omega)).1 (mm 14 (by decide) (by decide)) (fun k => (far 192 k (by omega) (by omega)).2) (fun k _ => mq 6 k (by decide))
theorem case_46 {u : Nat} {B : StB} {M : StM} (hI : Inv u B M) (hu : u < 512) (O : StO) : okc_46 B M O ∧ Inv (u + 1) (stB_46 B M O) (stM_46 B M O) := by
  obtain ⟨e, ty, he, hu2, hL, hS, hH, hE, hRd, hTt⟩ := hI
  obtain ⟨c1, c2, c3, c4⟩ := LR_copy hL (p := 32) (by omega)
  have F := F_copies_M0_M3 (smi M 15 0) 0 0 (by omega) (by omega)
  rw [show Int32.ofNat 0 = 0 from rfl] at F
  generalize hC : f_X3_copyFrom 32 0 B = C at c1 c2 c3 c4
  have ef : f_X6_save B = (bi B 0 3, sbi C 176 7 1) := by
    unfold f_X6_save
    rw [hC, nm_eq, nm_eq, bi_sbi, if_neg (by omega), (c2.2 0 3 (by omega)).1]
  have em : f_X7_save M = (ma M 0 0, smi (mcp (smi M 15 0) 0 0 3 0 124) 5 1) := by
    unfold f_X7_save
    rw [nm_eq, F.1, nm_eq, nm_eq]
    rfl
  have om : ok_X7_save M := by
    intro z hz
    rw [hz]
    exact F.2
  unfold okc_46 stB_46 stM_46
  rw [ef, em]
  have g : Fg 176 177 C (sbi C 176 7 1) := Fg_i (Fg_r _ _ C) _ _ (by omega) (by omega)
  have n7 : bi (sbi C 176 7 1) 176 7 = 1 := by rw [bi_sbi, if_pos ⟨rfl, rfl⟩]
  have n8 : ∀ k, k ≠ 7 → bi (sbi C 176 7 1) 176 k = bi B 176 k := fun k hk => by rw [bi_sbi, if_neg (by omega), (c2.2 176 k (by omega)).1]
  generalize sbi C 176 7 1 = D at g n7 n8
  have far : ∀ q k, 48 ≤ q → q ≠ 176 → bi D q k = bi B q k ∧ ba D q k = ba B q k := fun q k h1 h2 => ⟨(g.2 q k (by omega)).1.trans (c2.2 q k (by omega)).1, (g.2 q k (by omega)).2.2.trans (c2.2 q k (by omega)).2.2⟩
  have mq : ∀ q k, q ≠ 3 → ma (smi (mcp (smi M 15 0) 0 0 3 0 124) 5 1) q k = ma M q k := fun q k hq => by rw [ma_smi, ma_mcp, if_neg (by omega), ma_smi]
  have m3 : ∀ k, k < 124 → ma (smi (mcp (smi M 15 0) 0 0 3 0 124) 5 1) 3 k = ma M 0 k := fun k hk => by
    rw [ma_smi, ma_mcp, if_pos (by omega), ma_smi]
    exact congrArg (ma M 0) (by omega)
  have mm : ∀ j, j ≠ 15 → j ≠ 5 → mi (smi (mcp (smi M 15 0) 0 0 3 0 124) 5 1) j = mi M j := fun j h1 h2 => by rw [mi_smi, if_neg h2, mi_mcp, mi_smi, if_neg h1]
  have m5 : mi (smi (mcp (smi M 15 0) 0 0 3 0 124) 5 1) 5 = 1 := by rw [mi_smi, if_pos rfl]
  generalize smi (mcp (smi M 15 0) 0 0 3 0 124) 5 1 = N at mq m3 mm m5
  have hday : bi B 0 3 = ma M 0 0 := by
    obtain ⟨n, t, hT, hR⟩ := hL
    exact (Ti_s hT).1
  refine ⟨⟨c1, om, hday⟩, e, ty, by omega, by omega, LR_cong (LR_Fg c4 g (by omega)) (fun k _ => mq 0 k (by decide)), ?_, ?_, ?_, ?_, ?_⟩
  · refine ⟨Or.inr n7, m5.trans n7.symm, fun _ => ?_⟩
    exact LR_cong (LR_Fg c3 g (by omega)) m3
  · exact IvH_k hH (Nat.le_refl e) (by omega) (far 177 0 (by omega) (by omega)).1 (far 177 1 (by omega) (by omega)).1 (mm 6 (by decide) (by decide)) (fun k _ => mq 4 k (by decide)) (fun q R h1 h2 h => LR_Fg (LR_Fg h c2 (by omega)) g (by omega))
  · exact IvE_k hE (n8 8 (by decide)) (n8 9 (by decide)) (mm 7 (by decide) (by decide)) (mm 8 (by decide) (by decide)) (mm 9 (by decide) (by decide))
  · exact IvR_k hRd (far 179 1 (by omega) (by omega)).1 (mm 12 (by decide) (by decide)) (fun k => (far 180 k (by omega) (by omega)).2) (fun k _ => mq 5 k (by decide))
  · exact IvT_k hTt (g.1.trans c2.1) (far 191 3 (by omega) (by omega)).1 (mm 14 (by decide) (by decide)) (fun k => (far 192 k (by omega) (by omega)).2) (fun k _ => mq 6 k (by decide))
theorem case_47 {u : Nat} {B : StB} {M : StM} (hI : Inv u B M) (hu : u < 512) (O : StO) : okc_47 B M O ∧ Inv (u + 1) (stB_47 B M O) (stM_47 B M O) := by
  have hN := fun v => Inv_15 hI hu v
  obtain ⟨e, ty, he, hu2, hL, ⟨s1, s2, s3⟩, hH, hE, hRd, hTt⟩ := hI
  unfold okc_47 stB_47 stM_47
  rcases s1 with h0 | h1
  · have m5 : mi M 5 = 0 := s2.trans h0
    have ef : f_X6_restore B = (4, 0, B) := by
      unfold f_X6_restore
      rw [if_pos h0]
    have em : f_X7_restore M = (0, smi M 15 1) := by
      unfold f_X7_restore
      rw [nm_eq, m5, goes_0]
      rfl
    have om : ok_X7_restore M := by
      unfold ok_X7_restore
      rw [m5]
      refine ⟨okgoes (Or.inl rfl), ?_⟩
      intro z hz
      rw [hz, goes_0]
      exact ⟨fun _ => trivial, fun h9 => absurd rfl h9⟩
    rw [ef, em]
    exact ⟨⟨⟨fun _ => trivial, fun h9 => absurd h0 h9⟩, Or.inr rfl, om, rfl, fun h => absurd (show (1 : Int32) = 0 from h) (by decide)⟩, hN 1⟩
  · have m5 : mi M 5 = 1 := s2.trans h1
    have hne : ¬ bi B 176 7 = 0 := by
      rw [h1]
      decide
    have hLs := s3 h1
    obtain ⟨c1, c2, c3, c4⟩ := LR_copy hLs (p := 0) (by omega)
    have F := F_copies_M3_M0 (smi M 15 0) 0 0 (by omega) (by omega)
    rw [show Int32.ofNat 0 = 0 from rfl] at F
    generalize hC : f_X3_copyFrom 0 32 B = C at c1 c2 c3 c4
    have hday : bi C 0 3 = ma M 3 0 := by
      obtain ⟨n, t, hT, hR⟩ := c3
      exact (Ti_s hT).1
    have ef : f_X6_restore B = (0, ma M 3 0, sbi C 177 0 0) := by
      unfold f_X6_restore
      rw [if_neg hne, hC, nm_eq, nm_eq, bi_sbi, if_neg (by omega), hday]
    have em : f_X7_restore M = (ma M 3 0, smi (mcp (smi M 15 0) 3 0 0 0 124) 6 0) := by
      unfold f_X7_restore
      rw [nm_eq, m5, goes_1]
      show (if (1 : Int32) = 0 then _ else nm (f_X7_copies_M3_M0 (smi M 15 0) 0 0) _) = _
      rw [if_neg (by decide), F.1, nm_eq, nm_eq]
      rfl
    have om : ok_X7_restore M := by
      unfold ok_X7_restore
      rw [m5]
      refine ⟨okgoes (Or.inr rfl), ?_⟩
      intro z hz
      rw [hz, goes_1]
      exact ⟨fun h9 => absurd (show (1 : Int32) = 0 from h9) (by decide), fun _ => F.2⟩
    have ok6 : ok_X6_restore B := by
      exact ⟨fun h9 => absurd h9 hne, fun _ => c1⟩
    rw [ef, em]
    have g : Fg 177 178 C (sbi C 177 0 0) := Fg_i (Fg_r _ _ C) _ _ (by omega) (by omega)
    have n0 : bi (sbi C 177 0 0) 177 0 = 0 := by rw [bi_sbi, if_pos ⟨rfl, rfl⟩]
    have n1 : bi (sbi C 177 0 0) 177 1 = bi B 177 1 := by rw [bi_sbi, if_neg (by omega), (c2.2 177 1 (by omega)).1]
    generalize sbi C 177 0 0 = D at g n0 n1
    have far : ∀ q k, 16 ≤ q → q ≠ 177 → bi D q k = bi B q k ∧ ba D q k = ba B q k := fun q k h1 h2 => ⟨(g.2 q k (by omega)).1.trans (c2.2 q k (by omega)).1, (g.2 q k (by omega)).2.2.trans (c2.2 q k (by omega)).2.2⟩
    have mq : ∀ q k, q ≠ 0 → ma (smi (mcp (smi M 15 0) 3 0 0 0 124) 6 0) q k = ma M q k := fun q k hq => by rw [ma_smi, ma_mcp, if_neg (by omega), ma_smi]
    have m0 : ∀ k, k < 124 → ma (smi (mcp (smi M 15 0) 3 0 0 0 124) 6 0) 0 k = ma M 3 k := fun k hk => by
      rw [ma_smi, ma_mcp, if_pos (by omega), ma_smi]
      exact congrArg (ma M 3) (by omega)
    have mm : ∀ j, j ≠ 15 → j ≠ 6 → mi (smi (mcp (smi M 15 0) 3 0 0 0 124) 6 0) j = mi M j := fun j h1 h2 => by rw [mi_smi, if_neg h2, mi_mcp, mi_smi, if_neg h1]
    have m6 : mi (smi (mcp (smi M 15 0) 3 0 0 0 124) 6 0) 6 = 0 := by rw [mi_smi, if_pos rfl]
    have m15 : mi (smi (mcp (smi M 15 0) 3 0 0 0 124) 6 0) 15 = 0 := by rw [mi_smi, if_neg (by decide), mi_mcp, mi_smi, if_pos rfl]
    generalize smi (mcp (smi M 15 0) 3 0 0 0 124) 6 0 = N at mq m0 mm m6 m15
    refine ⟨⟨ok6, Or.inl rfl, om, m15, fun _ => rfl⟩, e, ty, by omega, by omega, LR_cong (LR_Fg c3 g (by omega)) m0, ?_, ?_, ?_, ?_, ?_⟩
    · exact IvS_k ⟨Or.inr h1, s2, s3⟩ (Nat.le_refl e) (by omega) (far 176 7 (by omega) (by omega)).1 (mm 5 (by decide) (by decide)) (fun k _ => mq 3 k (by decide)) (fun R h => LR_Fg (LR_Fg h c2 (by omega)) g (by omega))
    · obtain ⟨hl, hn, a1, a2, a3, a4, a5, a6⟩ := hH
      exact ⟨0, hn, by omega, a2, n0, m6, n1.trans a5, fun r hr => by omega⟩
    · exact IvE_k hE (far 176 8 (by omega) (by omega)).1 (far 176 9 (by omega) (by omega)).1 (mm 7 (by decide) (by decide)) (mm 8 (by decide) (by decide)) (mm 9 (by decide) (by decide))
    · exact IvR_k hRd (far 179 1 (by omega) (by omega)).1 (mm 12 (by decide) (by decide)) (fun k => (far 180 k (by omega) (by omega)).2) (fun k _ => mq 5 k (by decide))
    · exact IvT_k hTt (g.1.trans c2.1) (far 191 3 (by omega) (by omega)).1 (mm 14 (by decide) (by decide)) (fun k => (far 192 k (by omega) (by omega)).2) (fun k _ => mq 6 k (by decide))
