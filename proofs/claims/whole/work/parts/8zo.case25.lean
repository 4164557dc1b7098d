/-! the pure part: the transfer of a rank -/
theorem L_rkT {n i : Nat} {B : StB} {R : Nat → Int32} {key : Nat → Int} (hn : n ≤ 10) (hi : i < n) (h0 : bi B 6 0 = Int32.ofNat n) (hb : ∀ j, j < n → ba B 11 j = R (48 + 5 * j)) (hk : ∀ j, j < n → key j = -(R (48 + 5 * j)).toInt) : ∀ (g nf k : Nat), k + g = n → g < nf → ok_X5_positionOf_L4 nf 6 B (Int32.ofNat i) (Int32.ofNat (rk key i k)) (Int32.ofNat k) ∧ f_X5_positionOf_L4 nf 6 B (Int32.ofNat i) (Int32.ofNat (rk key i k)) (Int32.ofNat k) = Int32.ofNat (rk key i n) := by
  intro g
  induction g with
  | zero =>
    intro nf k hkn hnf
    obtain ⟨nf, rfl⟩ : ∃ q, nf = q + 1 := ⟨nf - 1, by omega⟩
    have w : bi B 6 0 ≤ Int32.ofNat k := by
      rw [h0, le_ofN (by omega) (by omega)]
      omega
    refine ⟨⟨fun _ => trivial, fun h9 => absurd w h9⟩, ?_⟩
    rw [f_X5_positionOf_L4, if_pos w, show k = n by omega]
  | succ g ih =>
    intro nf k hkn hnf
    obtain ⟨nf, rfl⟩ : ∃ q, nf = q + 1 := ⟨nf - 1, by omega⟩
    have w : ¬ bi B 6 0 ≤ Int32.ofNat k := by
      rw [h0, le_ofN (by omega) (by omega)]
      omega
    have q1 : ba B (6 + 5) (ix (Int32.ofNat k)) = R (48 + 5 * k) := by
      rw [ix_o (by omega)]
      exact hb k (by omega)
    have q2 : ba B (6 + 5) (ix (Int32.ofNat i)) = R (48 + 5 * i) := by
      rw [ix_o (by omega)]
      exact hb i hi
    have vk : vp_in (Int32.ofNat k) 10 := in_o (by omega) (by omega)
    have vi : vp_in (Int32.ofNat i) 10 := in_o (by omega) (by omega)
    obtain ⟨r1, r2⟩ := ih nf (k + 1) (by omega) (by omega)
    have k1 := hk k (by omega)
    have k2 := hk i hi
    have wl : (R (48 + 5 * i) ≤ R (48 + 5 * k)) ↔ key k ≤ key i := by
      rw [i32_le, k1, k2]
      omega
    have we : (R (48 + 5 * k) = R (48 + 5 * i)) ↔ key k = key i := by
      rw [i32_inj, k1, k2]
      omega
    have wi : (Int32.ofNat i ≤ Int32.ofNat k) ↔ i ≤ k := le_ofN (by omega) (by omega)
    refine ⟨⟨fun h9 => absurd h9 w, fun _ => ⟨vk, vi, ?_⟩⟩, ?_⟩
    · rw [q1, q2, oad1 k, oad1 (rk key i k)]
      refine ⟨fun c1 => ⟨vk, vi, fun c2 => ⟨fun c3 => ?_, fun c3 => ?_⟩, fun c2 => ?_⟩, fun c1 => ⟨vk, vi, fun c2 => ⟨fun c3 => ?_, fun c3 => ?_⟩, fun c2 => ?_⟩⟩
      · rw [wl] at c1
        rw [we] at c2
        rw [wi] at c3
        rw [rk_s, if_neg (by omega)] at r1
        exact r1
      · rw [wl] at c1
        rw [we] at c2
        rw [wi] at c3
        rw [rk_s, if_pos (by omega)] at r1
        exact r1
      · rw [wl] at c1
        rw [we] at c2
        rw [rk_s, if_neg (by omega)] at r1
        exact r1
      · rw [wl] at c1
        rw [rk_s, if_pos (by omega)] at r1
        exact r1
      · rw [wl] at c1
        rw [rk_s, if_pos (by omega)] at r1
        exact r1
      · rw [wl] at c1
        rw [rk_s, if_pos (by omega)] at r1
        exact r1
    · rw [f_X5_positionOf_L4, if_neg w, q1, q2, oad1 k, oad1 (rk key i k)]
      by_cases c1 : R (48 + 5 * i) ≤ R (48 + 5 * k)
      · rw [if_pos c1]
        rw [wl] at c1
        by_cases c2 : R (48 + 5 * k) = R (48 + 5 * i)
        · rw [if_pos c2]
          rw [we] at c2
          by_cases c3 : Int32.ofNat i ≤ Int32.ofNat k
          · rw [if_pos c3]
            rw [wi] at c3
            rw [rk_s, if_neg (by omega)] at r2
            exact r2
          · rw [if_neg c3]
            rw [wi] at c3
            rw [rk_s, if_pos (by omega)] at r2
            exact r2
        · rw [if_neg c2]
          rw [we] at c2
          rw [rk_s, if_neg (by omega)] at r2
          exact r2
      · rw [if_neg c1]
        rw [wl] at c1
        rw [rk_s, if_pos (by omega)] at r2
        have c2 : ¬ R (48 + 5 * k) = R (48 + 5 * i) := by
          rw [we]
          omega
        rw [if_neg c2]
        exact r2
theorem L_rkN {n i : Nat} {M : StM} {key : Nat → Int} (x a2 : Int32) (hn : n ≤ 10) (hi : i < n) (h0 : ma M 0 3 = Int32.ofNat n) (hk : ∀ j, j < n → key j = -(ma M 0 (48 + 5 * j)).toInt) (hb : ∀ j, j < n → -500000000 ≤ key j ∧ key j ≤ 500000000) : ∀ (g nf k : Nat), k + g = n → g < nf → ok_X7_transferAt_L20 nf M x a2 (Int32.ofNat i) (Int32.ofNat (rk key i k)) (Int32.ofNat k) ∧ f_X7_transferAt_L20 nf M x a2 (Int32.ofNat i) (Int32.ofNat (rk key i k)) (Int32.ofNat k) = Int32.ofNat (rk key i n) := by
  have i3 : ix 3 = 3 := by decide
  intro g
  induction g with
  | zero =>
    intro nf k hkn hnf
    obtain ⟨nf, rfl⟩ : ∃ q, nf = q + 1 := ⟨nf - 1, by omega⟩
    have w : ma M 0 (ix 3) ≤ Int32.ofNat k := by
      rw [i3, h0, le_ofN (by omega) (by omega)]
      omega
    refine ⟨⟨fun _ => trivial, fun h9 => absurd w h9⟩, ?_⟩
    rw [f_X7_transferAt_L20, if_pos w, show k = n by omega]
  | succ g ih =>
    intro nf k hkn hnf
    obtain ⟨nf, rfl⟩ : ∃ q, nf = q + 1 := ⟨nf - 1, by omega⟩
    have w : ¬ ma M 0 (ix 3) ≤ Int32.ofNat k := by
      rw [i3, h0, le_ofN (by omega) (by omega)]
      omega
    have p1 : f_X7_ofPlace M (Int32.ofNat k) 4 = ma M 0 (48 + 5 * k) ∧ ok_X7_ofPlace M (Int32.ofNat k) 4 := by
      have := plM0 (M := M) (k := k) (j := 4) (by omega) (by decide)
      rw [show 44 + 5 * k + 4 = 48 + 5 * k by omega] at this
      exact this
    have p2 : f_X7_ofPlace M (Int32.ofNat i) 4 = ma M 0 (48 + 5 * i) ∧ ok_X7_ofPlace M (Int32.ofNat i) 4 := by
      have := plM0 (M := M) (k := i) (j := 4) (by omega) (by decide)
      rw [show 44 + 5 * i + 4 = 48 + 5 * i by omega] at this
      exact this
    obtain ⟨r1, r2⟩ := ih nf (k + 1) (by omega) (by omega)
    have k1 := hk k (by omega)
    have k2 := hk i hi
    have b1 := hb k (by omega)
    have b2 := hb i hi
    have sub : (ma M 0 (48 + 5 * i) - ma M 0 (48 + 5 * k)).toInt = key k - key i := by
      rw [i32_sub (by omega) (by omega), k1, k2]
      omega
    have wl : (0 < ma M 0 (48 + 5 * i) - ma M 0 (48 + 5 * k)) ↔ key i < key k := by
      rw [i32_lt, sub, lit.1]
      omega
    have we : (ma M 0 (48 + 5 * i) - ma M 0 (48 + 5 * k) = 0) ↔ key k = key i := by
      rw [i32_inj, sub, lit.1]
      omega
    have wi : (Int32.ofNat i ≤ Int32.ofNat k) ↔ i ≤ k := le_ofN (by omega) (by omega)
    have a0 : Int32.ofNat (rk key i k) + 0 = Int32.ofNat (rk key i k) := Int32.add_zero _
    refine ⟨⟨fun h9 => absurd h9 w, fun _ => ⟨p2.2, ?_⟩⟩, ?_⟩
    · intro y hy
      refine ⟨p1.2, ?_⟩
      intro z hz v hv
      rw [hv, hy, hz, p1.1, p2.1, oad1 k, oad1 (rk key i k), a0]
      refine ⟨fun c1 => ?_, fun c1 => ⟨fun c2 => ⟨fun c3 => ?_, fun c3 => ?_⟩, fun c2 => ?_⟩⟩
      · rw [wl] at c1
        rw [rk_s, if_pos (by omega)] at r1
        intro a ha
        rw [ha]
        exact r1
      · rw [wl] at c1
        rw [we] at c2
        rw [wi] at c3
        rw [rk_s, if_neg (by omega)] at r1
        intro a ha
        rw [ha]
        exact r1
      · rw [wl] at c1
        rw [we] at c2
        rw [wi] at c3
        rw [rk_s, if_pos (by omega)] at r1
        intro a ha
        rw [ha]
        exact r1
      · rw [wl] at c1
        rw [we] at c2
        rw [rk_s, if_neg (by omega)] at r1
        intro a ha
        rw [ha]
        exact r1
    · rw [f_X7_transferAt_L20, if_neg w, nm_eq, nm_eq, p1.1, p2.1, nm_eq, oad1 k, oad1 (rk key i k), a0]
      by_cases c1 : 0 < ma M 0 (48 + 5 * i) - ma M 0 (48 + 5 * k)
      · rw [if_pos c1, nm_eq]
        rw [wl] at c1
        rw [rk_s, if_pos (by omega)] at r2
        exact r2
      · rw [if_neg c1]
        rw [wl] at c1
        by_cases c2 : ma M 0 (48 + 5 * i) - ma M 0 (48 + 5 * k) = 0
        · rw [if_pos c2]
          rw [we] at c2
          by_cases c3 : Int32.ofNat i ≤ Int32.ofNat k
          · rw [if_pos c3, nm_eq]
            rw [wi] at c3
            rw [rk_s, if_neg (by omega)] at r2
            exact r2
          · rw [if_neg c3, nm_eq]
            rw [wi] at c3
            rw [rk_s, if_pos (by omega)] at r2
            exact r2
        · rw [if_neg c2, nm_eq]
          rw [we] at c2
          rw [rk_s, if_neg (by omega)] at r2
          exact r2
theorem L_idC {n : Nat} {B : StB} {R : Nat → Int32} {key : Nat → Int} (x : Int32) (hn : n ≤ 10) (h0 : bi B 6 0 = Int32.ofNat n) (hb : ∀ j, j < n → ba B 11 j = R (48 + 5 * j)) (hid : ∀ j, j < n → ba B 7 j = R (44 + 5 * j)) (hk : ∀ j, j < n → key j = -(R (48 + 5 * j)).toInt) : ∀ (g nf k : Nat), k + g = n → g < nf → ok_X5_idAt_L4 nf 6 B x (lst key n (fun i => R (44 + 5 * i)) x (-1) k) (Int32.ofNat k) ∧ f_X5_idAt_L4 nf 6 B x (lst key n (fun i => R (44 + 5 * i)) x (-1) k) (Int32.ofNat k) = lst key n (fun i => R (44 + 5 * i)) x (-1) n := by
  have hfu : 10 < fu := by unfold fu; omega
  intro g
  induction g with
  | zero =>
    intro nf k hkn hnf
    obtain ⟨nf, rfl⟩ : ∃ q, nf = q + 1 := ⟨nf - 1, by omega⟩
    have w : bi B 6 0 ≤ Int32.ofNat k := by
      rw [h0, le_ofN (by omega) (by omega)]
      omega
    refine ⟨⟨fun _ => trivial, fun h9 => absurd w h9⟩, ?_⟩
    rw [f_X5_idAt_L4, if_pos w, show k = n by omega]
  | succ g ih =>
    intro nf k hkn hnf
    obtain ⟨nf, rfl⟩ : ∃ q, nf = q + 1 := ⟨nf - 1, by omega⟩
    have w : ¬ bi B 6 0 ≤ Int32.ofNat k := by
      rw [h0, le_ofN (by omega) (by omega)]
      omega
    obtain ⟨z1, z2⟩ := L_rkT hn (i := k) (by omega) h0 hb hk n fu 0 (by omega) (by omega)
    clear hfu
    have z1 : ok_X5_positionOf 6 B (Int32.ofNat k) := z1
    have z2 : f_X5_positionOf 6 B (Int32.ofNat k) = Int32.ofNat (rk key k n) := by
      unfold f_X5_positionOf
      rw [nm_eq]
      exact z2
    have vk : vp_in (Int32.ofNat k) 10 := in_o (by omega) (by omega)
    have qk : ba B (6 + 1) (ix (Int32.ofNat k)) = R (44 + 5 * k) := by
      rw [ix_o (by omega)]
      exact hid k (by omega)
    obtain ⟨r1, r2⟩ := ih nf (k + 1) (by omega) (by omega)
    rw [lst_s] at r1 r2
    refine ⟨⟨fun h9 => absurd h9 w, fun _ => ⟨z1, ?_⟩⟩, ?_⟩
    · intro y hy
      rw [hy, z2, oad1]
      refine ⟨fun c => ⟨vk, ?_⟩, fun c => ?_⟩
      · rw [if_pos c] at r1
        intro b hb'
        rw [hb', qk]
        exact r1
      · rw [if_neg c] at r1
        exact r1
    · rw [f_X5_idAt_L4, if_neg w, nm_eq, z2, oad1]
      by_cases c : Int32.ofNat (rk key k n) = x
      · rw [if_pos c, nm_eq, qk]
        rw [if_pos c] at r2
        exact r2
      · rw [if_neg c]
        rw [if_neg c] at r2
        exact r2
theorem L_idM {n : Nat} {M : StM} {key : Nat → Int} (x : Int32) (hn : n ≤ 10) (h0 : ma M 0 3 = Int32.ofNat n) (hk : ∀ j, j < n → key j = -(ma M 0 (48 + 5 * j)).toInt) (hb : ∀ j, j < n → -500000000 ≤ key j ∧ key j ≤ 500000000) : ∀ (g nf k : Nat), k + g = n → g < nf → ok_X7_transferAt_L4 nf M x (lst key n (fun i => ma M 0 (44 + 5 * i)) x (-1) k) (Int32.ofNat k) ∧ f_X7_transferAt_L4 nf M x (lst key n (fun i => ma M 0 (44 + 5 * i)) x (-1) k) (Int32.ofNat k) = lst key n (fun i => ma M 0 (44 + 5 * i)) x (-1) n := by
  have hfu : 10 < fu := by unfold fu; omega
  have i3 : ix 3 = 3 := by decide
  intro g
  induction g with
  | zero =>
    intro nf k hkn hnf
    obtain ⟨nf, rfl⟩ : ∃ q, nf = q + 1 := ⟨nf - 1, by omega⟩
    have w : ma M 0 (ix 3) ≤ Int32.ofNat k := by
      rw [i3, h0, le_ofN (by omega) (by omega)]
      omega
    refine ⟨⟨fun _ => trivial, fun h9 => absurd w h9⟩, ?_⟩
    rw [f_X7_transferAt_L4, if_pos w, show k = n by omega]
  | succ g ih =>
    intro nf k hkn hnf
    obtain ⟨nf, rfl⟩ : ∃ q, nf = q + 1 := ⟨nf - 1, by omega⟩
    have w : ¬ ma M 0 (ix 3) ≤ Int32.ofNat k := by
      rw [i3, h0, le_ofN (by omega) (by omega)]
      omega
    obtain ⟨z1, z2⟩ := L_rkN x (lst key n (fun i => ma M 0 (44 + 5 * i)) x (-1) k) hn (i := k) (by omega) h0 hk hb n fu 0 (by omega) (by omega)
    clear hfu
    have z1 : ok_X7_transferAt_L20 fu M x (lst key n (fun i => ma M 0 (44 + 5 * i)) x (-1) k) (Int32.ofNat k) 0 0 := z1
    have z2 : f_X7_transferAt_L20 fu M x (lst key n (fun i => ma M 0 (44 + 5 * i)) x (-1) k) (Int32.ofNat k) 0 0 = Int32.ofNat (rk key k n) := z2
    have p0 : f_X7_ofPlace M (Int32.ofNat k) 0 = ma M 0 (44 + 5 * k) ∧ ok_X7_ofPlace M (Int32.ofNat k) 0 := plM0 (M := M) (k := k) (j := 0) (by omega) (by decide)
    obtain ⟨r1, r2⟩ := ih nf (k + 1) (by omega) (by omega)
    rw [lst_s] at r1 r2
    refine ⟨⟨fun h9 => absurd h9 w, fun _ => ⟨z1, ?_⟩⟩, ?_⟩
    · intro y hy
      rw [hy, z2, oad1]
      refine ⟨fun c => ⟨p0.2, ?_⟩, fun c => ?_⟩
      · rw [if_pos c] at r1
        intro b hb'
        rw [hb', p0.1]
        exact r1
      · rw [if_neg c] at r1
        exact r1
    · rw [f_X7_transferAt_L4, if_neg w, nm_eq, z2, oad1]
      by_cases c : Int32.ofNat (rk key k n) = x
      · rw [if_pos c, nm_eq, p0.1]
        rw [if_pos c] at r2
        exact r2
      · rw [if_neg c]
        rw [if_neg c] at r2
        exact r2
theorem due_bd {e n t : Nat} {R : Nat → Int32} (h : RB e (60 * e) n t 0 0 R) {i : Nat} (hi : i < t) : -500000000 ≤ -(R (48 + 5 * i)).toInt ∧ -(R (48 + 5 * i)).toInt ≤ 500000000 := by
  obtain ⟨_, _, _, _, d1, d2, _⟩ := h.2.1.2.2.1 i hi
  have s := h.2.2
  unfold bS at s
  obtain ⟨s1, s2, s3, s4, s5, s6, _⟩ := s
  omega
theorem case_25 {u : Nat} {B : StB} {M : StM} (hI : Inv u B M) (hu : u < 512) (O : StO) (y1 : Int32) : okc_25 B M O y1 ∧ Inv (u + 1) (stB_25 B M O y1) (stM_25 B M O y1) := by
  have hN := fun v => Inv_15 hI hu v
  obtain ⟨e, ty, he, hu2, ⟨n, t, hT, hR⟩, hS, hH, hE, hRd, hTt⟩ := hI
  have ht : t ≤ 10 := hR.2.1.1
  have b0 : bi B 6 0 = Int32.ofNat t := (Ti_c hT).1
  have hfu : 10 < fu := by unfold fu; omega
  obtain ⟨k1, k2⟩ := L_idC (B := B) (R := ma M 0) (key := fun j => -(ma M 0 (48 + 5 * j)).toInt) y1 ht b0 (fun j hj => (Ti_q hT hj).2.2.2.2) (fun j hj => (Ti_q hT hj).1) (fun _ _ => rfl) t fu 0 (by omega) (by omega)
  obtain ⟨l1, l2⟩ := L_idM (M := M) (key := fun j => -(ma M 0 (48 + 5 * j)).toInt) y1 ht hR.2.1.2.1 (fun _ _ => rfl) (fun j hj => due_bd hR hj) t fu 0 (by omega) (by omega)
  clear hfu
  generalize (fun j => -(ma M 0 (48 + 5 * j)).toInt) = key at k1 k2 l1 l2
  have k1 : ok_X5_idAt 6 B y1 := k1
  have k2' : f_X5_idAt 6 B y1 = lst key t (fun i => ma M 0 (44 + 5 * i)) y1 (-1) t := by
    unfold f_X5_idAt
    rw [nm_eq]
    exact k2
  have l1 : ok_X7_transferAt_L4 fu M y1 (-1) 0 := l1
  have l2 : f_X7_transferAt_L4 fu M y1 (-1) 0 = lst key t (fun i => ma M 0 (44 + 5 * i)) y1 (-1) t := l2
  obtain ⟨c1, c2⟩ := lst_c key t (fun i => ma M 0 (44 + 5 * i)) y1 (-1) (-1) (by omega)
  have om : ok_X7_transferAt M y1 := by
    refine ⟨l1, ?_⟩
    intro z hz
    exact ⟨fun _ => okgoes (Or.inl rfl), fun _ => okgoes (Or.inr rfl)⟩
  have wlt : (y1 < bi B 6 0) ↔ y1.toInt < (t : Int) := by rw [b0, i32_lt, ofN_toInt (by omega)]
  have w0 : (y1 < 0) ↔ y1.toInt < 0 := by rw [i32_lt, lit.1]
  unfold okc_25 stB_25 stM_25
  by_cases hx : acc t y1
  · have hxx := hx
    unfold acc at hxx
    obtain ⟨m, hm, hxm⟩ := acc_o hx
    obtain ⟨⟨i, hi, e1⟩, e2⟩ := c1 m hm hxm
    have ne : ¬ lst key t (fun i => ma M 0 (44 + 5 * i)) y1 (-1) t = -1 := by
      rw [e1, i32_inj]
      have := (hR.2.1.2.2.1 i hi).2.2.2.2.2.2.1
      have m1 : (-1 : Int32).toInt = -1 := by decide
      rw [m1]
      omega
    have em : f_X7_transferAt M y1 = (lst key t (fun i => ma M 0 (44 + 5 * i)) y1 (-1) t, smi M 15 0) := by
      unfold f_X7_transferAt
      rw [nm_eq, l2, if_neg ne]
      unfold f_X7_transferAt_J113
      rw [nm_eq, goes_1]
      rfl
    have ef : f_X6_transferAt B y1 = (0, lst key t (fun i => ma M 0 (44 + 5 * i)) y1 (-1) t, B) := by
      unfold f_X6_transferAt
      rw [if_neg (by rw [w0]; omega), if_pos (by rw [wlt]; omega), nm_eq, k2']
    rw [ef, em]
    exact ⟨⟨⟨fun _ => trivial, fun _ => ⟨fun _ => k1, fun _ => trivial⟩⟩, Or.inl rfl, om, rfl, fun _ => rfl⟩, hN 0⟩
  · have hxx := hx
    unfold acc at hxx
    have e1 := c2 (fun m hm h => hx (by
      rw [h]
      unfold acc
      rw [ofN_toInt (by omega)]
      omega))
    have em : f_X7_transferAt M y1 = (0, smi M 15 1) := by
      unfold f_X7_transferAt
      rw [nm_eq, l2, if_pos e1]
      unfold f_X7_transferAt_J113
      rw [nm_eq, goes_0]
      rfl
    have ef : f_X6_transferAt B y1 = (1, 0, B) := by
      unfold f_X6_transferAt
      by_cases c : y1 < 0
      · rw [if_pos c]
      · rw [if_neg c, if_neg (by rw [wlt]; rw [w0] at c; omega)]
    rw [ef, em]
    exact ⟨⟨⟨fun _ => trivial, fun _ => ⟨fun _ => k1, fun _ => trivial⟩⟩, Or.inr rfl, om, rfl, fun h => absurd (show (1 : Int32) = 0 from h) (by decide)⟩, hN 1⟩
