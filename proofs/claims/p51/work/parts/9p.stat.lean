/-! p51: the statement's text, by the class and by the law -/
theorem shl0 : ∀ L, L < 17 → (Int32.ofNat L <<< ((0 : Int32) &&& 31)) = Int32.ofNat L := by decide +kernel
theorem bi_saf (B : StB) (p : Nat) (g : Nat → Int32) (q j : Nat) : bi (saf B p g) q j = bi B q j := rfl
theorem app_st {L i x : Nat} {B0 B : StB} {Mz M : StM} (h : WtD L B0 Mz B M) (hL : L < 16) (hi : (kByt.getD i []).getD 0 0 = Int32.ofNat x ∧ kLen.getD i 0 = 1 ∧ x < 128) : ∃ C N, f_J4_append_15ec4 i B = C ∧ ok_J4_append_15ec4 i B ∧ f_X7_put M (Int32.ofNat L) (Int32.ofNat x) = (Int32.ofNat (L + 1), N) ∧ WtD (L + 1) B0 Mz C N := by
  obtain ⟨h1, h2, h3, h4, h5⟩ := h
  obtain ⟨k1, k2, hx⟩ := hi
  obtain ⟨P1, P2, P3⟩ := putM (p := L) M (Int32.ofNat x) (by omega)
  have xL : ix (Int32.ofNat L) = L := ix_o (by omega)
  obtain ⟨c1, c2⟩ := ens_CD (B := B) (L := L + 1) h2 (by omega)
  have r1 : f_J0_length_8abf5 i = 1 := by
    unfold f_J0_length_8abf5
    rw [nm_eq, k2]
    show Int32.ofNat 1 >>> ((0 : Int32) &&& 31) = 1
    decide
  have sl := shl0 L (by omega)
  have ef : f_J4_append_15ec4 i B = sbi (saf B 194 (va_cpy (fun j => (kByt.getD i []).getD j 0) (ba B 194) 0 L 1)) 193 3 (Int32.ofNat (L + 1)) := by
    simp only [f_J4_append_15ec4, f_J5_append_cf1ce, nm_eq, r1, h1, oad1, c1, f_J5_putStringAt_47b60, f_J0_getBytes_840e7, sl, cpk, xL, k2, bi_saf]
  refine ⟨_, sma M 6 L (Int32.ofNat x), ef, ?_, P1, ?_⟩
  · show ok_J5_append_cf1ce i B
    intro r hr
    rw [hr, r1, h1, oad1]
    refine ⟨c2, ?_⟩
    intro B3 hB3
    rw [hB3, c1, h1]
    refine ⟨fun r2 hr2 => hr2.symm, ?_⟩
    intro r3 hr3
    refine ⟨hr3, ?_⟩
    rw [sl, xL, k2, h2]
    refine ⟨?_, by omega⟩
    rw [i32_lt, ofN_toInt (by omega), lit.1]
    omega
  · refine ⟨?_, h2, fun k hk => ?_, Fg_t h4 ⟨rfl, fun q k hq => ⟨?_, rfl, ?_⟩⟩, NF_t h5 P3 (by omega)⟩
    · rw [bi_sbi, if_pos ⟨rfl, rfl⟩]
    · rw [ba_sbi, ba_saf, if_pos rfl, ma_sma]
      show (if L ≤ k ∧ k < L + 1 then (kByt.getD i []).getD (0 + (k - L)) 0 else ba B 194 k) = _ ∧ _
      by_cases hkL : k = L
      · rw [if_pos (by omega), if_pos ⟨rfl, hkL⟩, show 0 + (k - L) = 0 by omega, k1, ofN_toInt (by omega)]
        exact ⟨rfl, by omega, by omega⟩
      · rw [if_neg (by omega), if_neg (fun hh => hkL hh.2)]
        exact h3 k (by omega)
    · rw [bi_sbi, if_neg (by omega)]
      rfl
    · rw [ba_sbi, ba_saf, if_neg (by omega)]
theorem app_st0 {L : Nat} {B0 B : StB} {Mz M : StM} (h : WtD L B0 Mz B M) (hL : L ≤ 16) : ∃ C, f_J4_append_15ec4 8 B = C ∧ ok_J4_append_15ec4 8 B ∧ WtD L B0 Mz C M := by
  obtain ⟨h1, h2, h3, h4, h5⟩ := h
  have xL : ix (Int32.ofNat L) = L := ix_o (by omega)
  obtain ⟨c1, c2⟩ := ens_CD (B := B) (L := L) h2 (by omega)
  have k2 : kLen.getD 8 0 = 0 := rfl
  have r1 : f_J0_length_8abf5 8 = 0 := by
    unfold f_J0_length_8abf5
    rw [nm_eq, k2]
    rfl
  have sl := shl0 L (by omega)
  have a0 : Int32.ofNat L + 0 = Int32.ofNat L := Int32.add_zero _
  have ef : f_J4_append_15ec4 8 B = sbi (saf B 194 (va_cpy (fun j => (kByt.getD 8 []).getD j 0) (ba B 194) 0 L 0)) 193 3 (Int32.ofNat L) := by
    simp only [f_J4_append_15ec4, f_J5_append_cf1ce, nm_eq, r1, h1, a0, c1, f_J5_putStringAt_47b60, f_J0_getBytes_840e7, sl, cpk, xL, k2, bi_saf]
  refine ⟨_, ef, ?_, ?_⟩
  · show ok_J5_append_cf1ce 8 B
    intro r hr
    rw [hr, r1, h1, a0]
    refine ⟨c2, ?_⟩
    intro B3 hB3
    rw [hB3, c1, h1]
    refine ⟨fun r2 hr2 => hr2.symm, ?_⟩
    intro r3 hr3
    refine ⟨hr3, ?_⟩
    rw [sl, xL, k2, h2]
    refine ⟨?_, by omega⟩
    rw [i32_lt, ofN_toInt (by omega), lit.1]
    omega
  · refine ⟨?_, h2, fun k hk => ?_, Fg_t h4 ⟨rfl, fun q k hq => ⟨?_, rfl, ?_⟩⟩, h5⟩
    · rw [bi_sbi, if_pos ⟨rfl, rfl⟩]
    · rw [ba_sbi, ba_saf, if_pos rfl]
      show (if L ≤ k ∧ k < L + 0 then _ else ba B 194 k) = _ ∧ _
      rw [if_neg (by omega)]
      exact h3 k (by omega)
    · rw [bi_sbi, if_neg (by omega)]
      rfl
    · rw [ba_sbi, ba_saf, if_neg (by omega)]
theorem sbn_W (B : StB) (M : StM) : WtD 0 B M (sbn B) M := by
  refine ⟨?_, ?_, fun k hk => by omega, ⟨rfl, fun q k hq => ⟨?_, rfl, ?_⟩⟩, NF_r 0 M⟩
  · rfl
  · rfl
  · unfold sbn
    rw [bi_sbi, if_neg (by omega), bi_sbi, if_neg (by omega), bi_sbi, if_neg (by omega)]
    rfl
  · unfold sbn
    simp only [ba_sbi, ba_saf]
    rw [if_neg (by omega)]
theorem bal_d7 {x : Int32} (h1 : -500 ≤ x.toInt) (h2 : x.toInt < 10000000) : ∃ v D s, dgt v D ∧ ((0 ≤ x ∧ s = 0 ∧ x = Int32.ofNat v) ∨ (¬ 0 ≤ x ∧ s = 1 ∧ x = -(Int32.ofNat v))) ∧ s + (D + 1) ≤ 7 := by
  obtain ⟨v, D, s, a1, a2, a3⟩ := bal_d h1 (by omega)
  refine ⟨v, D, s, a1, a2, ?_⟩
  obtain ⟨b1, b2, b3⟩ := a1
  have hv : v < 100000000 := by
    have := (p10_b 8 (by omega)).1
    have := p10_m (show D + 1 ≤ 8 by omega)
    omega
  have hp7 : p10 7 = 10000000 := by decide
  have hp3 : p10 3 = 1000 := by decide
  rcases a2 with ⟨c1, c2, c3⟩ | ⟨c1, c2, c3⟩
  · have e := ofN_toInt (a := v) (by omega)
    rw [← c3] at e
    by_cases hD : D = 7
    · subst hD
      rcases b2 with b2 | b2
      · omega
      · omega
    · omega
  · have e := ng_int (v := v) (by omega)
    rw [← c3] at e
    by_cases hD : 3 ≤ D
    · have := p10_m hD
      rcases b2 with b2 | b2
      · omega
      · omega
    · omega
theorem sy_58 : (58 : Int32) = Int32.ofNat 58 ∧ (47 : Int32) = Int32.ofNat 47 ∧ (42 : Int32) = Int32.ofNat 42 := ⟨rfl, rfl, rfl⟩
theorem SS_st {e n t L : Nat} {B C : StB} {R : Nat → Int32} (h : SS e n t B R) (g : Fg 191 193 B C) (hL : bi C 191 3 = Int32.ofNat L) (h16 : L ≤ 16) : SS e n t C R := by
  obtain ⟨hT, hR, hX, hz, ⟨hl, hn, a1, a2, a3, a4⟩, -⟩ := h
  exact ⟨Ti_Fg hT g (by omega), hR, hX, g.1.trans hz, ⟨hl, hn, a1, a2, (g.2 177 0 (by omega)).1.trans a3, (g.2 177 1 (by omega)).1.trans a4⟩, L, h16, hL⟩
def lwc (i : Nat) (B1 : StB) (k bal lim : Int32) : StB := f_J4_append_bf812_D (f_J4_append_15ec4 6 (f_J4_append_bf812_D (f_J4_append_15ec4 5 (f_J4_append_bf812_D (f_J4_append_15ec4 i (sbn B1)) k)) bal)) lim
def okwc (i : Nat) (B1 : StB) (k bal lim : Int32) : Prop := ok_J4_append_15ec4 i (sbn B1) ∧ ok_J4_append_bf812_D (f_J4_append_15ec4 i (sbn B1)) k ∧ ok_J4_append_15ec4 5 (f_J4_append_bf812_D (f_J4_append_15ec4 i (sbn B1)) k) ∧ ok_J4_append_bf812_D (f_J4_append_15ec4 5 (f_J4_append_bf812_D (f_J4_append_15ec4 i (sbn B1)) k)) bal ∧ ok_J4_append_15ec4 6 (f_J4_append_bf812_D (f_J4_append_15ec4 5 (f_J4_append_bf812_D (f_J4_append_15ec4 i (sbn B1)) k)) bal) ∧ ok_J4_append_bf812_D (f_J4_append_15ec4 6 (f_J4_append_bf812_D (f_J4_append_15ec4 5 (f_J4_append_bf812_D (f_J4_append_15ec4 i (sbn B1)) k)) bal)) lim
/-- the facts of account k's text -/
theorem parts_k {e n t k : Nat} {B : StB} {R : Nat → Int32} (h : SS e n t B R) (hk : k < n) (he : e ≤ 100) : ∃ kd v D s v2 D2, kd < 4 ∧ R (12 + 4 * k) = Int32.ofNat kd ∧ dgt k 0 ∧ dgt v D ∧ ((0 ≤ R (13 + 4 * k) ∧ s = 0 ∧ R (13 + 4 * k) = Int32.ofNat v) ∨ (¬ 0 ≤ R (13 + 4 * k) ∧ s = 1 ∧ R (13 + 4 * k) = -(Int32.ofNat v))) ∧ s + (D + 1) ≤ 7 ∧ dgt v2 D2 ∧ R (14 + 4 * k) = Int32.ofNat v2 ∧ D2 ≤ 2 ∧ 0 ≤ R (14 + 4 * k) := by
  obtain ⟨hT, hR, -⟩ := h
  have hn : n ≤ 8 := hR.1.1
  obtain ⟨k1, k2, k3, k4, k5, k6, k7, k8⟩ := bA_at hR.1 hk
  have hS := hR.2.2
  unfold bS at hS
  rw [if_neg (by omega)] at k8
  obtain ⟨kd, hkd, ekd⟩ := of_rng (n := 4) k1 (by omega)
  obtain ⟨v, D, s, a1, a2, a3⟩ := bal_d7 (x := R (13 + 4 * k)) (by omega) (by omega)
  obtain ⟨v2, D2, b1, b2, b3, b4⟩ := lim_d (x := R (14 + 4 * k)) k4 k5
  refine ⟨kd, v, D, s, v2, D2, hkd, ekd, ?_, a1, a2, a3, b1, b2, b3, b4⟩
  have : ∀ k, k < 8 → k < p10 1 := by decide
  exact ⟨this k (by omega), Or.inl rfl, by omega⟩
theorem G_and {α : Type} {Z : α → Prop} {o P : Prop} {f : α} (ho : o) (h : Gz Z P f) : Gz Z (o ∧ P) f := ⟨⟨ho, h.1⟩, h.2⟩
theorem same_N {a b : Int32} {N N' : StM} {z : Int32 × StM} (h1 : z = (a, N)) (h2 : z = (b, N')) : N' = N := (Prod.mk.inj (h2.symm.trans h1)).2
theorem stat_C {e n t k : Nat} {B : StB} {R : Nat → Int32} (h : SS e n t B R) (hk : k < n) (he : e ≤ 100) : ∃ L N, L ≤ 15 ∧ Gz (fun z => z.1 = Int32.ofNat L ∧ Wt L B M0 z.2 N) (ok_X6_writeStatement_n B (Int32.ofNat k)) (f_X6_writeStatement_n B (Int32.ofNat k)) ∧ ∀ i B1, (kByt.getD i []).getD 0 0 = Int32.ofNat (lk (ix (R (12 + 4 * k)))) ∧ kLen.getD i 0 = 1 → okwc i B1 (Int32.ofNat k) (R (13 + 4 * k)) (R (14 + 4 * k)) ∧ Fg 193 195 B1 (lwc i B1 (Int32.ofNat k) (R (13 + 4 * k)) (R (14 + 4 * k))) ∧ (R (15 + 4 * k) = 0 → ok_J4_append_15ec4 8 (lwc i B1 (Int32.ofNat k) (R (13 + 4 * k)) (R (14 + 4 * k))) ∧ WtD L B1 M0 (f_J4_append_15ec4 8 (lwc i B1 (Int32.ofNat k) (R (13 + 4 * k)) (R (14 + 4 * k)))) N) ∧ (¬ R (15 + 4 * k) = 0 → ok_J4_append_15ec4 7 (lwc i B1 (Int32.ofNat k) (R (13 + 4 * k)) (R (14 + 4 * k))) ∧ WtD L B1 M0 (f_J4_append_15ec4 7 (lwc i B1 (Int32.ofNat k) (R (13 + 4 * k)) (R (14 + 4 * k)))) N) := by
  obtain ⟨kd, v, D, s, v2, D2, hkd, ekd, dk, a1, a2, a3, b1, b2, b3, b4⟩ := parts_k h hk he
  obtain ⟨hT, hR, -, hz, -, sl, s1, s2⟩ := h
  have hn : n ≤ 8 := hR.1.1
  obtain ⟨lk1, -, lk3, lk4⟩ := letK kd hkd
  have xk : ix (Int32.ofNat k) = k := ix_o (by omega)
  have vk : vp_in (Int32.ofNat k) 8 := in_o (by omega) (by omega)
  have xkd : ix (R (12 + 4 * k)) = kd := by rw [ekd]; exact ix_o (by omega)
  have xa : (0 ≤ Int32.ofNat k ∧ (0 : Nat) = 0 ∧ Int32.ofNat k = Int32.ofNat k) ∨ (¬ 0 ≤ Int32.ofNat k ∧ (0 : Nat) = 1 ∧ Int32.ofNat k = -(Int32.ofNat k)) := by
    left
    refine ⟨?_, rfl, rfl⟩
    rw [i32_le, ofN_toInt (by omega), lit.1]
    omega
  have xl : (0 ≤ R (14 + 4 * k) ∧ (0 : Nat) = 0 ∧ R (14 + 4 * k) = Int32.ofNat v2) ∨ (¬ 0 ≤ R (14 + 4 * k) ∧ (0 : Nat) = 1 ∧ R (14 + 4 * k) = -(Int32.ofNat v2)) := Or.inl ⟨b4, rfl, b2⟩
  obtain ⟨C0, c01, c02, c03, c04, c05⟩ := set0 hz s2 s1
  have w0 : Wt 0 B M0 C0 M0 := ⟨c03, c04, fun k hk => by omega, c05, NF_r 0 M0⟩
  obtain ⟨C1, N1, f1, o1, m1, -, w1⟩ := app_ch w0 (x := lk kd) (by omega) lk3
  obtain ⟨C2, N2, f2, o2, m2, -, w2⟩ := app_nu w1 dk xa (by omega)
  obtain ⟨C3, N3, f3, o3, m3, -, w3⟩ := app_ch w2 (x := 58) (by omega) (by omega)
  obtain ⟨C4, N4, f4, o4, m4, -, w4⟩ := app_nu w3 a1 a2 (by omega)
  obtain ⟨C5, N5, f5, o5, m5, -, w5⟩ := app_ch w4 (x := 47) (by omega) (by omega)
  obtain ⟨C6, N6, f6, o6, m6, -, w6⟩ := app_nu w5 b1 xl (by omega)
  have law : ∀ i B1, (kByt.getD i []).getD 0 0 = Int32.ofNat (lk (ix (R (12 + 4 * k)))) ∧ kLen.getD i 0 = 1 → okwc i B1 (Int32.ofNat k) (R (13 + 4 * k)) (R (14 + 4 * k)) ∧ WtD (0 + 1 + 0 + (0 + 1) + 1 + s + (D + 1) + 1 + 0 + (D2 + 1)) B1 M0 (lwc i B1 (Int32.ofNat k) (R (13 + 4 * k)) (R (14 + 4 * k))) N6 := by
    intro i B1 hi
    rw [xkd] at hi
    obtain ⟨D1, P1, g1, p1, n1, y1⟩ := app_st (sbn_W B1 M0) (i := i) (x := lk kd) (by omega) ⟨hi.1, hi.2, lk3⟩
    rw [same_N m1 n1] at y1
    obtain ⟨D2', P2, g2, p2, n2, -, y2⟩ := app_nuD y1 dk xa (by omega)
    rw [same_N m2 n2] at y2
    obtain ⟨D3, P3, g3, p3, n3, y3⟩ := app_st y2 (i := 5) (x := 58) (by omega) ⟨rfl, rfl, by omega⟩
    rw [same_N m3 n3] at y3
    obtain ⟨D4, P4, g4, p4, n4, -, y4⟩ := app_nuD y3 a1 a2 (by omega)
    rw [same_N m4 n4] at y4
    obtain ⟨D5, P5, g5, p5, n5, y5⟩ := app_st y4 (i := 6) (x := 47) (by omega) ⟨rfl, rfl, by omega⟩
    rw [same_N m5 n5] at y5
    obtain ⟨D6, P6, g6, p6, n6, -, y6⟩ := app_nuD y5 b1 xl (by omega)
    rw [same_N m6 n6] at y6
    unfold okwc lwc
    rw [g1, g2, g3, g4, g5, g6]
    exact ⟨⟨p1, p2, p3, p4, p5, p6⟩, y6⟩
  have cls : ∀ (L : Nat) (N : StM), (R (15 + 4 * k) = 0 → Wt L B M0 C6 N) → (¬ R (15 + 4 * k) = 0 → ok_J4_append_cf468 C6 42 ∧ Wt L B M0 (f_J4_append_cf468 C6 42) N) → Gz (fun z => z.1 = Int32.ofNat L ∧ Wt L B M0 z.2 N) (ok_X6_writeStatement_n B (Int32.ofNat k)) (f_X6_writeStatement_n B (Int32.ofNat k)) := by
    intro L N hA hB
    have v0 : ba C0 2 k = Int32.ofNat kd := ((w0.2.2.2.1.2 2 k (by omega)).2.2.trans (Ti_k hT hk)).trans ekd
    have v3 : ba C3 3 k = R (13 + 4 * k) := (w3.2.2.2.1.2 3 k (by omega)).2.2.trans (Ti_b hT hk)
    have v5 : ba C5 4 k = R (14 + 4 * k) := (w5.2.2.2.1.2 4 k (by omega)).2.2.trans (Ti_l hT hk)
    have v6 : ba C6 5 k = R (15 + 4 * k) := (w6.2.2.2.1.2 5 k (by omega)).2.2.trans (hT.1.2.2.2.2.2.2 k hk)
    have och : ok_J0_charAt_5068e 0 (Int32.ofNat kd) := by
      have : ∀ kd, kd < 4 → ok_J0_charAt_5068e 0 (Int32.ofNat kd) := by
        intro kd hkd r hr
        refine ⟨by rw [hr]; exact (by decide : ¬ (1 : Int32) = 0), ?_, ?_⟩
        · have h4 : kLen.getD 0 0 = 4 := rfl
          refine ⟨⟨?_, ?_⟩, ?_, ?_⟩
          · rw [i32_lt, ofN_toInt (by omega), lit.1]
            omega
          · rw [h4, lt_ofN (by omega) (by omega)]
            exact hkd
          · rw [h4]
            exact in_o hkd (by omega)
          · have hh : kd = 0 ∨ kd = 1 ∨ kd = 2 ∨ kd = 3 := by omega
            rcases hh with rfl | rfl | rfl | rfl <;> rfl
        · intro r4 hr4
          rw [hr4]
          have hh : kd = 0 ∨ kd = 1 ∨ kd = 2 ∨ kd = 3 := by omega
          rcases hh with rfl | rfl | rfl | rfl <;> rfl
      exact this kd hkd
    unfold f_X6_writeStatement_n ok_X6_writeStatement_n
    rw [xk]
    refine G_and (reqAn hT hk) (G_ka c02 c01 (G_and vk ?_))
    rw [v0]
    refine G_ka och lk1 (G_ka o1 f1 (G_ka o2 f2 (G_ka o3 f3 (G_and vk ?_))))
    rw [v3]
    refine G_ka o4 f4 (G_ka o5 f5 (G_and vk ?_))
    rw [v5]
    refine G_ka o6 f6 (G_and vk ?_)
    rw [v6]
    refine G_ite (fun h0 => ⟨trivial, ?_⟩) (fun h0 => ⟨(hB h0).1, ?_⟩)
    · exact ⟨(hA h0).1, hA h0⟩
    · exact ⟨(hB h0).2.1, (hB h0).2⟩
  by_cases h0 : R (15 + 4 * k) = 0
  · refine ⟨0 + 1 + 0 + (0 + 1) + 1 + s + (D + 1) + 1 + 0 + (D2 + 1), N6, by omega, cls _ _ (fun _ => w6) (fun h => absurd h0 h), fun i B1 hi => ?_⟩
    obtain ⟨l1, l2⟩ := law i B1 hi
    obtain ⟨E, e1, e2, e3⟩ := app_st0 l2 (by omega)
    refine ⟨l1, l2.2.2.2.1, fun _ => ⟨e2, ?_⟩, fun h => absurd h0 h⟩
    rw [e1]
    exact e3
  · obtain ⟨C7, N7, f7, o7, m7, -, w7⟩ := app_ch w6 (x := 42) (by omega) (by omega)
    refine ⟨0 + 1 + 0 + (0 + 1) + 1 + s + (D + 1) + 1 + 0 + (D2 + 1) + 1, N7, by omega, cls _ _ (fun h => absurd h h0) (fun _ => ⟨o7, ?_⟩), fun i B1 hi => ?_⟩
    · have f7 : f_J4_append_cf468 C6 42 = C7 := f7
      rw [f7]
      exact w7
    · obtain ⟨l1, l2⟩ := law i B1 hi
      obtain ⟨E, P7, e1, e2, e3, e4⟩ := app_st l2 (i := 7) (x := 42) (by omega) ⟨rfl, rfl, by omega⟩
      rw [same_N m7 e3] at e4
      refine ⟨l1, l2.2.2.2.1, fun h => absurd h h0, fun _ => ⟨e2, ?_⟩⟩
      rw [e1]
      exact e4
