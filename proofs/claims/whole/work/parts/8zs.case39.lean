/-! the pure part: a statement written -/
def Wt (L : Nat) (B0 : StB) (M0 : StM) (B : StB) (M : StM) : Prop := bi B 191 3 = Int32.ofNat L ∧ bz B = 16 ∧ (∀ k, k < L → ba B 192 k = ma M 6 k ∧ 0 ≤ (ma M 6 k).toInt ∧ (ma M 6 k).toInt ≤ 127) ∧ Fg 191 193 B0 B ∧ NF 0 M0 M
theorem ens_16 : ∀ L, L < 17 → (Int32.ofNat L - (Int32.ofNat 16 >>> (0 &&& 31))) ≤ 0 := by decide +kernel
theorem ens_C {B : StB} {L : Nat} (h : bz B = 16) (hL : L ≤ 16) : f_J5_ensureCapacityInternal_d00df B (Int32.ofNat L) = B ∧ ok_J5_ensureCapacityInternal_d00df B (Int32.ofNat L) := by
  refine ⟨rfl, ?_⟩
  intro v hv
  rw [hv, h]
  exact ens_16 L (by omega)
theorem byt : ∀ x, x < 128 → vp_nar .byte ((Int32.toInt8 (Int32.ofNat x)).toInt32) = Int32.ofNat x ∧ f_J1_canEncode_fc78d (Int32.ofNat x) = 1 := by decide +kernel
theorem app_ch {L x : Nat} {B0 B : StB} {M0 M : StM} (h : Wt L B0 M0 B M) (hL : L < 16) (hx : x < 128) : ∃ C N, f_J4_append_cf468 B (Int32.ofNat x) = C ∧ ok_J4_append_cf468 B (Int32.ofNat x) ∧ f_X7_put M (Int32.ofNat L) (Int32.ofNat x) = (Int32.ofNat (L + 1), N) ∧ ok_X7_put M (Int32.ofNat L) (Int32.ofNat x) ∧ Wt (L + 1) B0 M0 C N := by
  obtain ⟨h1, h2, h3, h4, h5⟩ := h
  obtain ⟨b1, b2⟩ := byt x hx
  obtain ⟨P1, P2, P3⟩ := putM (p := L) M (Int32.ofNat x) (by omega)
  have e1 : bi B 191 3 + 1 = Int32.ofNat (L + 1) := by rw [h1, oad1]
  have xL : ix (Int32.ofNat L) = L := ix_o (by omega)
  obtain ⟨c1, c2⟩ := ens_C (L := L + 1) h2 (by omega)
  have ef : f_J4_append_cf468 B (Int32.ofNat x) = sba (sbi B 191 3 (Int32.ofNat (L + 1))) 192 L (Int32.ofNat x) := by
    unfold f_J4_append_cf468 f_J5_append_3fe6f
    rw [nm_eq, e1, c1, nm_eq, nm_eq, nm_eq, nm_eq, e1, nm_eq, h1, xL, b1]
  refine ⟨sba (sbi B 191 3 (Int32.ofNat (L + 1))) 192 L (Int32.ofNat x), sma M 6 L (Int32.ofNat x), ef, ?_, P1, P2, ?_⟩
  · show ok_J5_append_3fe6f B (Int32.ofNat x)
    refine ⟨by rw [e1]; exact c2, ?_⟩
    rw [e1, c1]
    intro B2 hB2
    rw [hB2]
    intro r hr
    refine ⟨by rw [hr]; exact (by decide : ¬ (1 : Int32) = 0), ?_⟩
    intro r5 hr5
    refine ⟨by rw [hr5, b2]; decide, ?_⟩
    intro B7 h7
    rw [h1, h7]
    show vp_in _ (bz B)
    rw [h2]
    exact in_o hL (by omega)
  · refine ⟨?_, h2, fun k hk => ?_, Fg_t h4 (Fg_a (Fg_i (Fg_r _ _ _) _ _ (by omega) (by omega)) _ _ (by omega) (by omega)), NF_t h5 P3 (by omega)⟩
    · rw [bi_sba, bi_sbi, if_pos ⟨rfl, rfl⟩]
    · rw [ba_sba, ma_sma]
      by_cases hkL : k = L
      · rw [if_pos ⟨rfl, hkL⟩, if_pos ⟨rfl, hkL⟩, ofN_toInt (by omega)]
        exact ⟨rfl, by omega, by omega⟩
      · rw [if_neg (fun hh => hkL hh.2), if_neg (fun hh => hkL hh.2), ba_sbi]
        exact h3 k (by omega)
/-- the model's number -/
theorem J15_M {L v D : Nat} {M : StM} {x : Int32} (hd : dgt v D) (hm : mabs x = Int32.ofNat v) (hL : L + (D + 1) ≤ 40) : ok_X7_writesNumber_J15 M x (Int32.ofNat L) ∧ ∃ N, f_X7_writesNumber_J15 M x (Int32.ofNat L) = (Int32.ofNat (L + (D + 1)), N) ∧ NF L M N ∧ ∀ i, i < D + 1 → ma N 6 (L + (D + 1) - 1 - i) = dgv v i := by
  have hfu : 20 < fu := by unfold fu; omega
  have hD := hd.2.2
  have hv : v < 100000000 := by
    have h1 := hd.1
    have := p10_b (D + 1) (by omega)
    omega
  obtain ⟨a1, a2⟩ := L_pow hd M (Int32.ofNat L) D fu 0 (by omega) (by omega)
  obtain ⟨b1, N, b2, b3, b4⟩ := L_dig hv (D + 1) fu L M (by omega) (by omega) (by omega)
  clear hfu
  have a1 : ok_X7_writesNumber_L25 fu M (Int32.ofNat L) (Int32.ofNat v) 1 := a1
  have a2 : f_X7_writesNumber_L25 fu M (Int32.ofNat L) (Int32.ofNat v) 1 = Int32.ofNat (p10 D) := a2
  have b1 : ok_X7_writesNumber_L49 fu M (Int32.ofNat L) (Int32.ofNat v) (Int32.ofNat (p10 D)) := b1
  have b2 : f_X7_writesNumber_L49 fu M (Int32.ofNat L) (Int32.ofNat v) (Int32.ofNat (p10 D)) = (Int32.ofNat (L + (D + 1)), N) := b2
  refine ⟨?_, N, ?_, b3, b4⟩
  · intro y hy
    rw [hy, hm]
    refine ⟨a1, ?_⟩
    intro z hz
    rw [hz, a2]
    exact b1
  · unfold f_X7_writesNumber_J15
    rw [nm_eq, hm, nm_eq, a2, nm_eq, b2]
theorem size_C {v D : Nat} {x : Int32} (s : Nat) (hd : dgt v D) (hx : (0 ≤ x ∧ s = 0 ∧ x = Int32.ofNat v) ∨ (¬ 0 ≤ x ∧ s = 1 ∧ x = -(Int32.ofNat v))) : ok_J6_stringSize_0f7a4 x ∧ f_J6_stringSize_0f7a4 x = Int32.ofNat (D + 1 + s) := by
  have hfu : 20 < fu := by unfold fu; omega
  have hD := hd.2.2
  have e10 : -(Int32.ofNat (p10 1)) = -10 := by decide
  have e1 : Int32.ofNat 1 = 1 := rfl
  have w : (x < 0) ↔ ¬ 0 ≤ x := by rw [i32_lt, i32_le]; omega
  rcases hx with ⟨h1, h2, h3⟩ | ⟨h1, h2, h3⟩
  · subst h2
    obtain ⟨r1, r2⟩ := L_size hd 0 (by omega) D fu 1 (by omega) (by omega) (by omega)
    clear hfu
    rw [e10] at r1 r2
    have wn : ¬ x < 0 := by rw [w]; exact fun h => h h1
    have r1 : ok_J6_stringSize_0f7a4_J11 (-(Int32.ofNat v)) 0 := r1
    refine ⟨⟨fun h9 => absurd h9 wn, fun _ => ?_⟩, ?_⟩
    · intro y hy
      rw [hy, h3]
      exact r1
    · unfold f_J6_stringSize_0f7a4
      rw [if_neg wn, nm_eq, h3]
      unfold f_J6_stringSize_0f7a4_J11
      exact r2
  · subst h2
    obtain ⟨r1, r2⟩ := L_size hd 1 (by omega) D fu 1 (by omega) (by omega) (by omega)
    clear hfu
    rw [e10] at r1 r2
    have wp : x < 0 := w.mpr h1
    refine ⟨⟨fun _ => ?_, fun h9 => absurd wp h9⟩, ?_⟩
    · rw [h3]
      exact r1
    · unfold f_J6_stringSize_0f7a4
      rw [if_pos wp, h3]
      unfold f_J6_stringSize_0f7a4_J11
      exact r2
theorem app_nu {L v D s : Nat} {x : Int32} {B0 B : StB} {M0 M : StM} (h : Wt L B0 M0 B M) (hd : dgt v D) (hx : (0 ≤ x ∧ s = 0 ∧ x = Int32.ofNat v) ∨ (¬ 0 ≤ x ∧ s = 1 ∧ x = -(Int32.ofNat v))) (hL : L + s + (D + 1) ≤ 16) : ∃ C N, f_J4_append_bf812 B x = C ∧ ok_J4_append_bf812 B x ∧ f_X7_writesNumber M (Int32.ofNat L) x = (Int32.ofNat (L + s + (D + 1)), N) ∧ ok_X7_writesNumber M (Int32.ofNat L) x ∧ Wt (L + s + (D + 1)) B0 M0 C N := by
  obtain ⟨h1, h2, h3, h4, h5⟩ := h
  have hD := hd.2.2
  have hb := p10_b (D + 1) (by omega)
  have hlt := hd.1
  obtain ⟨z1, z2⟩ := size_C s hd hx
  have ev : Int32.ofNat L + Int32.ofNat (D + 1 + s) = Int32.ofNat (L + s + (D + 1)) := by
    rw [oadd]
    exact congrArg Int32.ofNat (by omega)
  obtain ⟨c1, c2⟩ := ens_C (L := L + s + (D + 1)) h2 (by omega)
  have hs1 : s ≤ 1 := by
    rcases hx with ⟨_, h, _⟩ | ⟨_, h, _⟩ <;> omega
  obtain ⟨g1, g2, g3, g4⟩ := chars_C (B := B) (e := L + s + (D + 1)) (x := x) (Int32.ofNat s) hd (by
    rcases hx with ⟨p1, p2, p3⟩ | ⟨p1, p2, p3⟩
    · exact Or.inl ⟨p1, by rw [p2]; rfl, p3⟩
    · exact Or.inr ⟨p1, by rw [p2]; rfl, by omega, p3⟩) (by omega) (by omega) h2
  have ef : f_J4_append_bf812 B x = sbi (f_J6_getChars_ba4f3 B x (Int32.ofNat (L + s + (D + 1)))).2 191 3 (Int32.ofNat (L + s + (D + 1))) := by
    unfold f_J4_append_bf812 f_J5_append_c97b9
    rw [nm_eq, nm_eq, h1, nm_eq, z2, nm_eq, ev, c1, nm_eq, nm_eq, nm_eq]
    rfl
  have oC : ok_J4_append_bf812 B x := by
    show ok_J5_append_c97b9 B x
    intro v1 hv1
    refine ⟨z1, ?_⟩
    intro r3 hr3 v4 hv4
    have e4 : v4 = Int32.ofNat (L + s + (D + 1)) := by rw [hv4, hv1, hr3, h1, z2, ev]
    rw [e4]
    refine ⟨c2, ?_⟩
    rw [c1]
    intro B6 h6
    rw [h6]
    intro r hr
    exact ⟨by rw [hr]; exact (by decide : ¬ (1 : Int32) = 0), g1⟩
  generalize (f_J6_getChars_ba4f3 B x (Int32.ofNat (L + s + (D + 1)))).2 = C at g2 g3 g4 ef
  have hi0 : (Int32.ofNat s = 0) ↔ s = 0 := ofN_inj (b := 0) (by omega) (by omega)
  have elo : L + s + (D + 1) - (D + 1) - (if Int32.ofNat s = 0 then 0 else 1) = L := by
    by_cases hs0 : s = 0
    · rw [if_pos (hi0.mpr hs0)]
      omega
    · rw [if_neg (mt hi0.mp hs0)]
      omega
  rw [elo] at g2
  -- the model
  have mod : ∃ N, f_X7_writesNumber M (Int32.ofNat L) x = (Int32.ofNat (L + s + (D + 1)), N) ∧ ok_X7_writesNumber M (Int32.ofNat L) x ∧ NF L M N ∧ (∀ i, i < D + 1 → ma N 6 (L + s + (D + 1) - 1 - i) = dgv v i) ∧ (s = 1 → ma N 6 L = 45) := by
    rcases hx with ⟨p1, p2, p3⟩ | ⟨p1, p2, p3⟩
    · subst p2
      have hm : mabs x = Int32.ofNat v := by
        unfold mabs
        rw [if_pos p1, p3]
      obtain ⟨j1, N, j2, j3, j4⟩ := J15_M (M := M) (L := L) hd hm (by omega)
      refine ⟨N, ?_, ⟨fun _ => j1, fun h9 => absurd p1 h9⟩, j3, j4, fun h => absurd h (by decide)⟩
      unfold f_X7_writesNumber
      rw [if_pos p1]
      exact j2
    · subst p2
      have hm : mabs x = Int32.ofNat v := by
        unfold mabs
        rw [if_neg p1, p3, Int32.zero_sub, neg2]
      obtain ⟨P1, P2, P3⟩ := putM (p := L) M 45 (by omega)
      obtain ⟨j1, N, j2, j3, j4⟩ := J15_M (M := sma M 6 L 45) (L := L + 1) hd hm (by omega)
      refine ⟨N, ?_, ⟨fun h9 => absurd h9 p1, fun _ => ⟨P2, ?_⟩⟩, NF_t P3 j3 (by omega), j4, fun _ => ?_⟩
      · unfold f_X7_writesNumber
        rw [if_neg p1, nm_eq, P1]
        exact j2
      · intro z hz
        rw [hz, P1]
        exact j1
      · rw [j3.2.2 L (by omega), ma_sma, if_pos ⟨rfl, rfl⟩]
  obtain ⟨N, n1, n2, n3, n4, n5⟩ := mod
  refine ⟨_, N, ef, oC, n1, n2, ?_, ?_, fun k hk => ?_, ?_, NF_t h5 n3 (by omega)⟩
  · rw [bi_sbi, if_pos ⟨rfl, rfl⟩]
  · exact g2.1.trans h2
  · rw [ba_sbi]
    by_cases hkL : k < L
    · rw [g2.2.2.2 k hkL, n3.2.2 k hkL]
      exact h3 k hkL
    · by_cases hks : k < L + s
      · have hs' : s = 1 := by omega
        have hk' : k = L := by omega
        have a := g4 (by rw [hs']; rfl)
        rw [show L + s + (D + 1) - (D + 1) - 1 = L by omega] at a
        rw [hk', a, n5 hs']
        exact ⟨rfl, by decide, by decide⟩
      · have a := g3 (L + s + (D + 1) - 1 - k) (by omega)
        have b := n4 (L + s + (D + 1) - 1 - k) (by omega)
        rw [show L + s + (D + 1) - 1 - (L + s + (D + 1) - 1 - k) = k by omega] at a b
        rw [a, b]
        exact ⟨rfl, dgv_b v _⟩
  · refine Fg_t h4 (Fg_t ⟨g2.1, fun q k hq => ⟨(g2.2.1 q k).1, (g2.2.1 q k).2, g2.2.2.1 q k (by omega)⟩⟩ (Fg_i (Fg_r _ _ _) _ _ (by omega) (by omega)))
