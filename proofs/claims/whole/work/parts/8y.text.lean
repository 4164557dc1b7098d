/-! the pure part: what is typed, what is written -/
theorem ch127 {c : Nat} (h : c < 127) : vp_nar .char (Int32.ofNat c) = Int32.ofNat c := by
  have : ∀ c : Nat, c < 127 → vp_nar .char (Int32.ofNat c) = Int32.ofNat c := by decide +kernel
  exact this c h
theorem ch128 {c : Nat} (h : c < 128) : ((Int32.toUInt32 (Int32.ofNat c &&& 255) % 65536).toInt32) = Int32.ofNat c ∧ ((Int32.toUInt32 (Int32.ofNat c) % 65536).toInt32) = Int32.ofNat c ∧ narrow .char (.int (Int32.ofNat c)) = .int (Int32.ofNat c) := by
  have : ∀ c : Nat, c < 128 → ((Int32.toUInt32 (Int32.ofNat c &&& 255) % 65536).toInt32) = Int32.ofNat c ∧ ((Int32.toUInt32 (Int32.ofNat c) % 65536).toInt32) = Int32.ofNat c ∧ narrow .char (.int (Int32.ofNat c)) = .int (Int32.ofNat c) := by decide +kernel
  exact this c h
theorem case_41 {u : Nat} {B : StB} {M : StM} (hI : Inv u B M) (hu : u < 512) (O : StO) (y1 : Int32) : okc_41 B M O y1 ∧ Inv (u + 1) (stB_41 B M O y1) (stM_41 B M O y1) := by
  have hN := fun v => Inv_15 hI hu v
  obtain ⟨e, ty, he, hu2, hL, hS, hH, hE, ⟨t1, t2, t3, t4⟩, hTt⟩ := hI
  unfold okc_41 stB_41 stM_41
  generalize (y1.toUInt32 % 65536).toInt32 = x
  have l32 : (32 : Int32).toInt = 32 := by decide
  have l126 : (126 : Int32).toInt = 126 := by decide
  have w60 : (bi B 179 1 < 60) ↔ ty < 60 := by
    rw [t2]
    exact lt_ofN (b := 60) (by omega) (by decide)
  have w60m : ((60 : Int32) ≤ mi M 12) ↔ 60 ≤ ty := by
    rw [t3]
    exact le_ofN (a := 60) (by decide) (by omega)
  have hx : ix (Int32.ofNat ty) = ty := ix_o (by omega)
  have okJ : ∀ s0 s1, (s0 = 1 → ty < 60) → (s0 = 0 ∨ s0 = 1) → (s1 = 0 ∨ s1 = 1) → ok_X7_type_J23 M x s0 s1 := by
    intro s0 s1 h a0 a1
    intro z hz
    rw [hz]
    rcases a1 with rfl | rfl
    · rw [holds_1]
      exact ⟨fun _ => trivial, fun h9 => absurd rfl h9⟩
    · rcases a0 with rfl | rfl
      · rw [holds_2]
        exact ⟨fun _ => trivial, fun h9 => absurd rfl h9⟩
      · rw [holds_0]
        refine ⟨fun h9 => absurd (show (1 : Int32) = 0 from h9) (by decide), fun _ => ?_⟩
        show vp_in (mi (smi M 15 0) 12) 60
        rw [mi_smi, if_neg (by decide), t3]
        have := h rfl
        exact in_o (by omega) (by omega)
  have om : ok_X7_type M x := by
    intro r hr
    rw [hr]
    exact ⟨fun _ => okJ 0 _ (fun h => absurd h (by decide)) (Or.inl rfl) (isIn01 _ _ _), fun h => okJ 1 _ (fun _ => by have := mt w60m.mpr h; omega) (Or.inr rfl) (isIn01 _ _ _)⟩
  have ok6 : ok_X6_type B x := by
    refine ⟨fun _ => trivial, fun _ => ⟨fun _ => ⟨fun h => ?_, fun _ => trivial⟩, fun _ => trivial⟩⟩
    show vp_in (bi B 179 1) 60
    rw [t2]
    exact in_o (w60.mp h) (by omega)
  rcases isIn_c x 32 126 with ⟨hy, z1, z2⟩ | ⟨hy, hy2⟩
  · have n32 : ¬ x < 32 := by rw [i32_lt]; omega
    have n126 : x ≤ 126 := by rw [i32_le]; omega
    by_cases h60 : ty < 60
    · obtain ⟨c, hc, rfl⟩ := of_rng (x := x) (n := 127) (by omega) (by omega)
      have ef : f_X6_type B (Int32.ofNat c) = (0, Int32.ofNat (ty + 1), sbi (sba B 180 ty (Int32.ofNat c)) 179 1 (Int32.ofNat (ty + 1))) := by
        unfold f_X6_type
        rw [if_neg n32, if_pos n126, if_pos (w60.mpr h60), nm_eq]
        unfold f_X4_append
        rw [nm_eq, nm_eq, t2, hx, ch127 hc]
        have : bi (sba B 180 ty (Int32.ofNat c)) 179 1 = Int32.ofNat ty := t2
        rw [this, oad1, bi_sbi, if_pos ⟨rfl, rfl⟩]
      have hw : ¬ (60 : Int32) ≤ mi M 12 := by
        rw [w60m]
        omega
      have g12 : mi (smi M 15 0) 12 = Int32.ofNat ty := by
        rw [mi_smi, if_neg (by decide)]
        exact t3
      have em : f_X7_type M (Int32.ofNat c) = (Int32.ofNat (ty + 1), smi (sma (smi M 15 0) 5 ty (Int32.ofNat c)) 12 (Int32.ofNat (ty + 1))) := by
        unfold f_X7_type
        rw [nm_eq, hy, if_neg hw]
        unfold f_X7_type_J23
        rw [nm_eq, holds_0]
        show (if (1 : Int32) = 0 then _ else nm (sma (smi M 15 0) 5 (ix (mi (smi M 15 0) 12)) (Int32.ofNat c)) _) = _
        rw [if_neg (by decide), g12, hx, nm_eq, nm_eq]
        have : mi (sma (smi M 15 0) 5 ty (Int32.ofNat c)) 12 = Int32.ofNat ty := g12
        rw [this, oad1, mi_smi, if_pos rfl]
      rw [ef, em]
      have g : Fg 179 181 B (sbi (sba B 180 ty (Int32.ofNat c)) 179 1 (Int32.ofNat (ty + 1))) := Fg_i (Fg_a (Fg_r _ _ B) _ _ (by omega) (by omega)) _ _ (by omega) (by omega)
      have mm : ∀ j, j ≠ 15 → j ≠ 12 → mi (smi (sma (smi M 15 0) 5 ty (Int32.ofNat c)) 12 (Int32.ofNat (ty + 1))) j = mi M j := fun j h1 h2 => by
        rw [mi_smi, if_neg h2, mi_sma, mi_smi, if_neg h1]
      have mq : ∀ q k, q ≠ 5 → ma (smi (sma (smi M 15 0) 5 ty (Int32.ofNat c)) 12 (Int32.ofNat (ty + 1))) q k = ma M q k := fun q k hq => by
        rw [ma_smi, ma_sma, if_neg (by omega), ma_smi]
      refine ⟨⟨ok6, Or.inl rfl, om, ?_, fun _ => rfl⟩, e, ty + 1, by omega, by omega, LR_cong (LR_Fg hL g (by omega)) (fun k _ => mq 0 k (by decide)), ?_, ?_, ?_, ?_, ?_⟩
      · show mi _ 15 = 0
        rw [mi_smi, if_neg (by decide), mi_sma, mi_smi, if_pos rfl]
      · exact IvS_k hS (Nat.le_refl e) (by omega) (g.2 _ _ (by omega)).1 (mm 5 (by decide) (by decide)) (fun k _ => mq 3 k (by decide)) (fun R h => LR_Fg h g (by omega))
      · exact IvH_k hH (Nat.le_refl e) (by omega) (g.2 _ _ (by omega)).1 (g.2 _ _ (by omega)).1 (mm 6 (by decide) (by decide)) (fun k _ => mq 4 k (by decide)) (fun q R h1 h2 h => LR_Fg h g (by omega))
      · exact IvE_k hE (g.2 _ _ (by omega)).1 (g.2 _ _ (by omega)).1 (mm 7 (by decide) (by decide)) (mm 8 (by decide) (by decide)) (mm 9 (by decide) (by decide))
      · refine ⟨by omega, ?_, ?_, fun k hk => ?_⟩
        · show bi (sbi (sba B 180 ty (Int32.ofNat c)) 179 1 (Int32.ofNat (ty + 1))) 179 1 = _
          rw [bi_sbi, if_pos ⟨rfl, rfl⟩]
        · show mi _ 12 = _
          rw [mi_smi, if_pos rfl]
        · show ba (sbi (sba B 180 ty (Int32.ofNat c)) 179 1 (Int32.ofNat (ty + 1))) 180 k = ma (smi (sma (smi M 15 0) 5 ty (Int32.ofNat c)) 12 (Int32.ofNat (ty + 1))) 5 k ∧ 32 ≤ (ma (smi (sma (smi M 15 0) 5 ty (Int32.ofNat c)) 12 (Int32.ofNat (ty + 1))) 5 k).toInt ∧ (ma (smi (sma (smi M 15 0) 5 ty (Int32.ofNat c)) 12 (Int32.ofNat (ty + 1))) 5 k).toInt ≤ 126
          rw [ba_sbi, ba_sba, ma_smi, ma_sma, ma_smi]
          by_cases hkt : k = ty
          · rw [if_pos ⟨rfl, hkt⟩, if_pos ⟨rfl, hkt⟩]
            exact ⟨rfl, by omega, by omega⟩
          · rw [if_neg (by omega), if_neg (by omega)]
            exact t4 k (by omega)
      · exact IvT_k hTt g.1 (g.2 _ _ (by omega)).1 (mm 14 (by decide) (by decide)) (fun k => (g.2 _ _ (by omega)).2.2) (fun k _ => mq 6 k (by decide))
    · have ef : f_X6_type B x = (4, 0, B) := by
        unfold f_X6_type
        rw [if_neg n32, if_pos n126, if_neg (mt w60.mp h60)]
      have em : f_X7_type M x = (0, smi M 15 2) := by
        unfold f_X7_type
        rw [nm_eq, hy, if_pos (w60m.mpr (by omega))]
        unfold f_X7_type_J23
        rw [nm_eq, holds_2]
        rfl
      rw [ef, em]
      exact ⟨⟨ok6, Or.inr (Or.inr rfl), om, rfl, fun h => absurd (show (2 : Int32) = 0 from h) (by decide)⟩, hN 2⟩
  · have ef : f_X6_type B x = (2, 0, B) := by
      unfold f_X6_type
      by_cases h32 : x < 32
      · rw [if_pos h32]
      · rw [if_neg h32, if_neg (by rw [i32_lt] at h32; rw [i32_le]; omega)]
    have em : f_X7_type M x = (0, smi M 15 1) := by
      unfold f_X7_type
      rw [nm_eq, hy]
      unfold f_X7_type_J23
      rw [nm_eq, nm_eq, holds_1, holds_1]
      split <;> rfl
    rw [ef, em]
    exact ⟨⟨ok6, Or.inr (Or.inl rfl), om, rfl, fun h => absurd (show (1 : Int32) = 0 from h) (by decide)⟩, hN 1⟩
theorem case_40 {u : Nat} {B : StB} {M : StM} (hI : Inv u B M) (hu : u < 512) (O : StO) (y1 : Int32) : okc_40 B M O y1 ∧ Inv (u + 1) (stB_40 B M O y1) (stM_40 B M O y1) := by
  have hN := fun v => Inv_15 hI hu v
  obtain ⟨e, ty, he, hu2, hL, hS, hH, hE, hRd, ⟨sl, s1, s2, s3, s4, s5⟩⟩ := hI
  have e0 : (0 : Int32).toInt = 0 := by decide
  have e1 : (1 : Int32).toInt = 1 := by decide
  have eL := ofN_toInt (a := sl) (by omega)
  have e2 : (Int32.ofNat sl - 1).toInt = (sl : Int) - 1 := by
    rw [i32_sub (by omega) (by omega)]
    omega
  unfold okc_40 stB_40 stM_40
  have elen : f_J4_length_8abf5 B = Int32.ofNat sl := s3
  by_cases hx : acc sl y1
  · have i1 : f_X7_isIn y1 0 (mi M 14 - 1) = 1 := by
      unfold acc at hx
      refine isIn_1 ?_ ?_
      · rw [i32_lt, e0]
        omega
      · rw [i32_lt, s4, e2]
        omega
    obtain ⟨i, hi, rfl⟩ := of_rng hx.1 hx.2
    have hxx : ix (Int32.ofNat i) = i := ix_o (by omega)
    obtain ⟨b1, b2, b3⟩ := s5 i hi
    obtain ⟨c, hc, ec⟩ := of_rng (x := ma M 6 i) (n := 128) (by omega) (by omega)
    obtain ⟨c1, c2, c3⟩ := ch128 hc
    have n0 : ¬ Int32.ofNat i < 0 := by
      rw [show (0 : Int32) = Int32.ofNat 0 from rfl, lt_ofN (by omega) (by omega)]
      omega
    have lt : Int32.ofNat i < Int32.ofNat sl := by
      rw [lt_ofN (by omega) (by omega)]
      exact hi
    have ech : f_J4_charAt_5068e B (Int32.ofNat i) = Int32.ofNat c := by
      unfold f_J4_charAt_5068e f_J5_charAt_5068e
      rw [nm_eq, nm_eq, hxx, b1, ec, c1]
    have ef : f_X6_statementAt B (Int32.ofNat i) = (0, Int32.ofNat c, B) := by
      unfold f_X6_statementAt
      rw [if_neg n0, nm_eq, elen, if_pos lt, nm_eq, ech]
    have em : f_X7_statementAt M (Int32.ofNat i) = (Int32.ofNat c, smi M 15 0) := by
      unfold f_X7_statementAt
      rw [nm_eq, i1, nm_eq, goes_1]
      show (if (1 : Int32) = 0 then _ else ((Int32.toUInt32 (ma M 6 (ix (Int32.ofNat i))) % 65536).toInt32, smi M 15 0)) = _
      rw [if_neg (by decide), hxx, ec, c2]
    have om : ok_X7_statementAt M (Int32.ofNat i) := by
      intro r hr
      rw [hr, i1]
      refine ⟨okgoes (Or.inr rfl), ?_⟩
      intro z hz
      rw [hz, goes_1]
      refine ⟨fun h9 => absurd (show (1 : Int32) = 0 from h9) (by decide), fun _ => ?_⟩
      show vp_in (Int32.ofNat i) 40 ∧ narrow .char (.int ((Int32.toUInt32 (ma M 6 (ix (Int32.ofNat i))) % 65536).toInt32)) = .int ((Int32.toUInt32 (ma M 6 (ix (Int32.ofNat i))) % 65536).toInt32)
      rw [hxx, ec, c2]
      exact ⟨in_o (by omega) (by omega), c3⟩
    have m16 : mn (Int32.ofNat sl) ((Int32.ofNat 16) >>> (0 &&& 31)) = Int32.ofNat sl := by
      have : ∀ q : Nat, q < 17 → mn (Int32.ofNat q) ((Int32.ofNat 16) >>> (0 &&& 31)) = Int32.ofNat q := by decide +kernel
      exact this sl (by omega)
    have och : ok_J4_charAt_5068e B (Int32.ofNat i) := by
      refine ⟨?_, ?_⟩
      · intro v hv
        rw [hv, s3, s2, m16, hxx, b1, ec, c1]
        exact ⟨⟨n0, lt⟩, in_o (by omega) (by omega), c3⟩
      · intro v hv
        have : f_J5_charAt_5068e B (Int32.ofNat i) = Int32.ofNat c := by
          unfold f_J5_charAt_5068e
          rw [nm_eq, hxx, b1, ec, c1]
        rw [hv, this]
        exact c3
    rw [ef, em]
    refine ⟨⟨⟨fun _ => trivial, fun _ => ?_⟩, Or.inl rfl, om, rfl, fun _ => rfl⟩, hN 0⟩
    intro v hv
    refine ⟨fun _ => ⟨och, ?_⟩, fun _ => trivial⟩
    intro v2 hv2
    rw [hv2, ech]
    exact c3
  · have i0 : f_X7_isIn y1 0 (mi M 14 - 1) = 0 := by
      refine isIn_0 ?_
      rw [i32_lt, i32_lt, s4, e2, e0]
      unfold acc at hx
      omega
    have nl : ¬ y1 < 0 → ¬ y1 < Int32.ofNat sl := by
      intro h h2
      unfold acc at hx
      rw [i32_lt] at h h2
      omega
    have ef : f_X6_statementAt B y1 = (1, 0, B) := by
      unfold f_X6_statementAt
      by_cases h0 : y1 < 0
      · rw [if_pos h0]
      · rw [if_neg h0, nm_eq, elen, if_neg (nl h0)]
    have em : f_X7_statementAt M y1 = (0, smi M 15 1) := by
      unfold f_X7_statementAt
      rw [nm_eq, i0, nm_eq, goes_0]
      rfl
    have om : ok_X7_statementAt M y1 := by
      intro r hr
      rw [hr, i0]
      refine ⟨okgoes (Or.inl rfl), ?_⟩
      intro z hz
      rw [hz, goes_0]
      exact ⟨fun _ => trivial, fun h9 => absurd rfl h9⟩
    rw [ef, em]
    refine ⟨⟨⟨fun _ => trivial, fun h0 => ?_⟩, Or.inr rfl, om, rfl, fun h => absurd (show (1 : Int32) = 0 from h) (by decide)⟩, hN 1⟩
    intro v hv
    refine ⟨fun h => absurd (by rw [hv, elen] at h; exact h) (nl h0), fun _ => trivial⟩
