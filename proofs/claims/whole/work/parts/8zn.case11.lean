/-! the pure part: the account of a rank -/
theorem L_atC {n : Nat} {B : StB} {R : Nat → Int32} {key : Nat → Int} (x : Int32) (hn : n ≤ 8) (h0 : bi B 1 0 = Int32.ofNat n) (hb : ∀ j, j < n → ba B 3 j = R (13 + 4 * j)) (hk : ∀ j, j < n → key j = (R (13 + 4 * j)).toInt) : ∀ (g nf k : Nat), k + g = n → g < nf → ok_X0_atRank_L4 nf 1 B x (lst key n (fun i => Int32.ofNat i) x 0 k) (Int32.ofNat k) ∧ f_X0_atRank_L4 nf 1 B x (lst key n (fun i => Int32.ofNat i) x 0 k) (Int32.ofNat k) = lst key n (fun i => Int32.ofNat i) x 0 n := by
  have hfu : 8 < fu := by unfold fu; omega
  intro g
  induction g with
  | zero =>
    intro nf k hkn hnf
    obtain ⟨nf, rfl⟩ : ∃ q, nf = q + 1 := ⟨nf - 1, by omega⟩
    have w : bi B 1 0 ≤ Int32.ofNat k := by
      rw [h0, le_ofN (by omega) (by omega)]
      omega
    refine ⟨⟨fun _ => trivial, fun h9 => absurd w h9⟩, ?_⟩
    rw [f_X0_atRank_L4, if_pos w, show k = n by omega]
  | succ g ih =>
    intro nf k hkn hnf
    obtain ⟨nf, rfl⟩ : ∃ q, nf = q + 1 := ⟨nf - 1, by omega⟩
    have w : ¬ bi B 1 0 ≤ Int32.ofNat k := by
      rw [h0, le_ofN (by omega) (by omega)]
      omega
    obtain ⟨z1, z2⟩ := L_rkA hn (i := k) (by omega) h0 hb hk n fu 0 (by omega) (by omega)
    clear hfu
    have z1 : ok_X0_rankOf 1 B (Int32.ofNat k) := z1
    have z2 : f_X0_rankOf 1 B (Int32.ofNat k) = Int32.ofNat (rk key k n) := by
      unfold f_X0_rankOf
      rw [nm_eq]
      exact z2
    obtain ⟨r1, r2⟩ := ih nf (k + 1) (by omega) (by omega)
    rw [lst_s] at r1 r2
    refine ⟨⟨fun h9 => absurd h9 w, fun _ => ⟨z1, ?_⟩⟩, ?_⟩
    · intro y hy
      rw [hy, z2, oad1]
      refine ⟨fun c => ?_, fun c => ?_⟩
      · rw [if_pos c] at r1
        exact r1
      · rw [if_neg c] at r1
        exact r1
    · rw [f_X0_atRank_L4, if_neg w, nm_eq, z2, oad1]
      by_cases c : Int32.ofNat (rk key k n) = x
      · rw [if_pos c]
        rw [if_pos c] at r2
        exact r2
      · rw [if_neg c]
        rw [if_neg c] at r2
        exact r2
theorem L_atM {n : Nat} {M : StM} {key : Nat → Int} (x : Int32) (hn : n ≤ 8) (h0 : ma M 0 1 = Int32.ofNat n) (hk : ∀ j, j < n → key j = (ma M 0 (13 + 4 * j)).toInt) (hb : ∀ j, j < n → -500000000 ≤ key j ∧ key j ≤ 500000000) : ∀ (g nf k : Nat), k + g = n → g < nf → ok_X7_accountAtRank_L4 nf M x (lst key n (fun i => Int32.ofNat i) x (-1) k) (Int32.ofNat k) ∧ f_X7_accountAtRank_L4 nf M x (lst key n (fun i => Int32.ofNat i) x (-1) k) (Int32.ofNat k) = lst key n (fun i => Int32.ofNat i) x (-1) n := by
  have hfu : 8 < fu := by unfold fu; omega
  have i1 : ix 1 = 1 := by decide
  intro g
  induction g with
  | zero =>
    intro nf k hkn hnf
    obtain ⟨nf, rfl⟩ : ∃ q, nf = q + 1 := ⟨nf - 1, by omega⟩
    have w : ma M 0 (ix 1) ≤ Int32.ofNat k := by
      rw [i1, h0, le_ofN (by omega) (by omega)]
      omega
    refine ⟨⟨fun _ => trivial, fun h9 => absurd w h9⟩, ?_⟩
    rw [f_X7_accountAtRank_L4, if_pos w, show k = n by omega]
  | succ g ih =>
    intro nf k hkn hnf
    obtain ⟨nf, rfl⟩ : ∃ q, nf = q + 1 := ⟨nf - 1, by omega⟩
    have w : ¬ ma M 0 (ix 1) ≤ Int32.ofNat k := by
      rw [i1, h0, le_ofN (by omega) (by omega)]
      omega
    obtain ⟨z1, z2⟩ := L_rkM x (lst key n (fun i => Int32.ofNat i) x (-1) k) hn (i := k) (by omega) h0 hk hb n fu 0 (by omega) (by omega)
    clear hfu
    have z1 : ok_X7_accountAtRank_L20 fu M x (lst key n (fun i => Int32.ofNat i) x (-1) k) (Int32.ofNat k) 0 0 := z1
    have z2 : f_X7_accountAtRank_L20 fu M x (lst key n (fun i => Int32.ofNat i) x (-1) k) (Int32.ofNat k) 0 0 = Int32.ofNat (rk key k n) := z2
    obtain ⟨r1, r2⟩ := ih nf (k + 1) (by omega) (by omega)
    rw [lst_s] at r1 r2
    refine ⟨⟨fun h9 => absurd h9 w, fun _ => ⟨z1, ?_⟩⟩, ?_⟩
    · intro y hy
      rw [hy, z2, oad1]
      refine ⟨fun c => ?_, fun c => ?_⟩
      · rw [if_pos c] at r1
        exact r1
      · rw [if_neg c] at r1
        exact r1
    · rw [f_X7_accountAtRank_L4, if_neg w, nm_eq, z2, oad1]
      by_cases c : Int32.ofNat (rk key k n) = x
      · rw [if_pos c]
        rw [if_pos c] at r2
        exact r2
      · rw [if_neg c]
        rw [if_neg c] at r2
        exact r2
theorem bal_bd {e n t : Nat} {R : Nat → Int32} (h : RB e (60 * e) n t 0 0 R) {i : Nat} (hi : i < n) : -500000000 ≤ (R (13 + 4 * i)).toInt ∧ (R (13 + 4 * i)).toInt ≤ 500000000 := by
  have a := h.1.2.2 i hi
  have s := h.2.2
  unfold bS at s
  obtain ⟨s1, s2, s3, s4, s5, s6, _⟩ := s
  rw [if_neg (Nat.not_lt_zero i)] at a
  omega
theorem case_11 {u : Nat} {B : StB} {M : StM} (hI : Inv u B M) (hu : u < 512) (O : StO) (y1 : Int32) : okc_11 B M O y1 ∧ Inv (u + 1) (stB_11 B M O y1) (stM_11 B M O y1) := by
  have hN := fun v => Inv_15 hI hu v
  obtain ⟨e, ty, he, hu2, ⟨n, t, hT, hR⟩, hS, hH, hE, hRd, hTt⟩ := hI
  obtain ⟨b1, b2, b3⟩ := Ti_n hT
  have b1 : bi B 1 0 = Int32.ofNat n := b1
  have hfu : 8 < fu := by unfold fu; omega
  obtain ⟨k1, k2⟩ := L_atC (B := B) (R := ma M 0) (key := fun j => (ma M 0 (13 + 4 * j)).toInt) y1 b3 b1 (fun j hj => Ti_b hT hj) (fun _ _ => rfl) n fu 0 (by omega) (by omega)
  obtain ⟨l1, l2⟩ := L_atM (M := M) (key := fun j => (ma M 0 (13 + 4 * j)).toInt) y1 b3 b2 (fun _ _ => rfl) (fun j hj => bal_bd hR hj) n fu 0 (by omega) (by omega)
  clear hfu
  generalize (fun j => (ma M 0 (13 + 4 * j)).toInt) = key at k1 k2 l1 l2
  have k1 : ok_X0_atRank 1 B y1 := k1
  have k2' : f_X0_atRank 1 B y1 = lst key n (fun i => Int32.ofNat i) y1 0 n := by
    unfold f_X0_atRank
    rw [nm_eq]
    exact k2
  have l1 : ok_X7_accountAtRank_L4 fu M y1 (-1) 0 := l1
  have l2 : f_X7_accountAtRank_L4 fu M y1 (-1) 0 = lst key n (fun i => Int32.ofNat i) y1 (-1) n := l2
  obtain ⟨c1, c2⟩ := lst_c key n (fun i => Int32.ofNat i) y1 (-1) 0 (by omega)
  have om : ok_X7_accountAtRank M y1 := by
    refine ⟨l1, ?_⟩
    intro z hz
    exact ⟨fun _ => okgoes (Or.inl rfl), fun _ => okgoes (Or.inr rfl)⟩
  unfold okc_11 stB_11 stM_11
  by_cases hx : acc n y1
  · obtain ⟨m, hm, hxm⟩ := acc_o hx
    obtain ⟨⟨i, hi, e1⟩, e2⟩ := c1 m hm hxm
    have ne : ¬ lst key n (fun i => Int32.ofNat i) y1 (-1) n = -1 := by
      rw [e1]
      exact ne_m1 (by omega)
    have em : f_X7_accountAtRank M y1 = (lst key n (fun i => Int32.ofNat i) y1 (-1) n, smi M 15 0) := by
      unfold f_X7_accountAtRank
      rw [nm_eq, l2, if_neg ne]
      unfold f_X7_accountAtRank_J108
      rw [nm_eq, goes_1]
      rfl
    have ef : f_X6_accountAtRank B y1 = (0, lst key n (fun i => Int32.ofNat i) y1 (-1) n, B) := by
      unfold f_X6_accountAtRank
      rw [nm_eq, has_1 b1 (by omega) hx, if_neg (by decide), nm_eq, k2', e2]
    rw [ef, em]
    refine ⟨⟨?_, Or.inl rfl, om, rfl, fun _ => rfl⟩, hN 0⟩
    intro r hr
    exact ⟨fun _ => trivial, fun _ => k1⟩
  · have e1 := c2 (fun m hm h => hx (by
      rw [h]
      unfold acc
      rw [ofN_toInt (by omega)]
      omega))
    have em : f_X7_accountAtRank M y1 = (0, smi M 15 1) := by
      unfold f_X7_accountAtRank
      rw [nm_eq, l2, if_pos e1]
      unfold f_X7_accountAtRank_J108
      rw [nm_eq, goes_0]
      rfl
    have h0 := has_0 b1 (by omega) hx
    have ef : f_X6_accountAtRank B y1 = (5, 0, B) := by
      unfold f_X6_accountAtRank
      rw [nm_eq, h0, if_pos rfl]
    rw [ef, em]
    refine ⟨⟨?_, Or.inr rfl, om, rfl, fun h => absurd (show (1 : Int32) = 0 from h) (by decide)⟩, hN 1⟩
    intro r hr
    rw [hr, h0]
    exact ⟨fun _ => trivial, fun h9 => absurd rfl h9⟩
