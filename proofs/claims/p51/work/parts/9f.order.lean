/-! p51: orders of accounts and of transfers -/
def rk (key : Nat → Int) (i : Nat) : Nat → Nat
  | 0 => 0
  | m + 1 => rk key i m + (if key i < key m ∨ (key m = key i ∧ m < i) then 1 else 0)
theorem rk_s (key : Nat → Int) (i m : Nat) : rk key i (m + 1) = rk key i m + (if key i < key m ∨ (key m = key i ∧ m < i) then 1 else 0) := rfl
theorem rk_le (key : Nat → Int) (i : Nat) : ∀ m, rk key i m ≤ m ∧ (i < m → rk key i m < m) := by
  intro m
  induction m with
  | zero => exact ⟨Nat.le_refl 0, fun h => absurd h (Nat.not_lt_zero i)⟩
  | succ m ih =>
    rw [rk_s]
    by_cases hm : m = i
    · subst hm
      rw [if_neg (by omega)]
      exact ⟨by omega, fun _ => by omega⟩
    · split
      · exact ⟨by omega, fun h => by have := ih.2 (by omega); omega⟩
      · exact ⟨by omega, fun h => by have := ih.2 (by omega); omega⟩
theorem rk_lt (key : Nat → Int) (i j : Nat) (h : key j < key i ∨ (key i = key j ∧ i < j)) : ∀ m, rk key i m ≤ rk key j m ∧ (i < m → rk key i m < rk key j m) := by
  intro m
  induction m with
  | zero => exact ⟨Nat.le_refl 0, fun h => absurd h (Nat.not_lt_zero i)⟩
  | succ m ih =>
    rw [rk_s, rk_s]
    by_cases hm : m = i
    · subst hm
      rw [if_neg (by omega), if_pos h]
      exact ⟨by omega, fun _ => by omega⟩
    · by_cases c : key i < key m ∨ (key m = key i ∧ m < i)
      · rw [if_pos c, if_pos (by omega)]
        exact ⟨by omega, fun h => by have := ih.2 (by omega); omega⟩
      · rw [if_neg c]
        split
        · exact ⟨by omega, fun h => by have := ih.2 (by omega); omega⟩
        · exact ⟨by omega, fun h => by have := ih.2 (by omega); omega⟩
theorem rk_inj (key : Nat → Int) (n i j : Nat) (hi : i < n) (hj : j < n) (h : rk key i n = rk key j n) : i = j := by
  by_cases c : key j < key i ∨ (key i = key j ∧ i < j)
  · have := (rk_lt key i j c n).2 hi
    omega
  · by_cases d : key i < key j ∨ (key j = key i ∧ j < i)
    · have := (rk_lt key j i d n).2 hj
      omega
    · omega
theorem php : ∀ (n : Nat) (f : Nat → Nat), (∀ i, i < n → f i < n) → (∀ i j, i < n → j < n → f i = f j → i = j) → ∀ m, m < n → ∃ i, i < n ∧ f i = m := by
  intro n
  induction n with
  | zero => intro f _ _ m hm; omega
  | succ n ih =>
    intro f h1 h2 m hm
    by_cases hm0 : m = f n
    · exact ⟨n, by omega, hm0.symm⟩
    · have hfn := h1 n (by omega)
      have g1 : ∀ i, i < n → (if f i = n then f n else f i) < n := by
        intro i hi
        have a1 := h1 i (by omega)
        split
        · rename_i e
          have : f n ≠ n := by
            intro e2
            have := h2 i n (by omega) (by omega) (by omega)
            omega
          omega
        · omega
      have g2 : ∀ i j, i < n → j < n → (if f i = n then f n else f i) = (if f j = n then f n else f j) → i = j := by
        intro i j hi hj e
        by_cases c1 : f i = n
        · by_cases c2 : f j = n
          · exact h2 i j (by omega) (by omega) (by omega)
          · rw [if_pos c1, if_neg c2] at e
            have := h2 n j (by omega) (by omega) e
            omega
        · by_cases c2 : f j = n
          · rw [if_neg c1, if_pos c2] at e
            have := h2 i n (by omega) (by omega) e
            omega
          · rw [if_neg c1, if_neg c2] at e
            exact h2 i j (by omega) (by omega) e
      by_cases hmn : m < n
      · obtain ⟨i, hi, e⟩ := ih (fun i => if f i = n then f n else f i) g1 g2 m hmn
        have e : (if f i = n then f n else f i) = m := e
        by_cases c : f i = n
        · rw [if_pos c] at e
          exact absurd e.symm hm0
        · rw [if_neg c] at e
          exact ⟨i, by omega, e⟩
      · have hmn' : m = n := by omega
        have hv : f n < n := by omega
        obtain ⟨i, hi, e⟩ := ih (fun i => if f i = n then f n else f i) g1 g2 (f n) hv
        have e : (if f i = n then f n else f i) = f n := e
        by_cases c : f i = n
        · exact ⟨i, by omega, by omega⟩
        · rw [if_neg c] at e
          have := h2 i n (by omega) (by omega) e
          omega
theorem rk_sur (key : Nat → Int) (n m : Nat) (hm : m < n) : ∃ i, i < n ∧ rk key i n = m := php n (fun i => rk key i n) (fun i hi => (rk_le key i n).2 hi) (fun i j hi hj h => rk_inj key n i j hi hj h) m hm
def lst (key : Nat → Int) (n : Nat) (v : Nat → Int32) (x d : Int32) : Nat → Int32
  | 0 => d
  | k + 1 => if Int32.ofNat (rk key k n) = x then v k else lst key n v x d k
theorem lst_s (key : Nat → Int) (n : Nat) (v : Nat → Int32) (x d : Int32) (k : Nat) : lst key n v x d (k + 1) = if Int32.ofNat (rk key k n) = x then v k else lst key n v x d k := rfl
theorem lst_no (key : Nat → Int) (n : Nat) (v : Nat → Int32) (x d : Int32) : ∀ k, (∀ i, i < k → Int32.ofNat (rk key i n) ≠ x) → lst key n v x d k = d := by
  intro k
  induction k with
  | zero => intro _; rfl
  | succ k ih =>
    intro h
    rw [lst_s, if_neg (h k (by omega))]
    exact ih (fun i hi => h i (by omega))
theorem L_rkA {n i : Nat} {B : StB} {R : Nat → Int32} {key : Nat → Int} (hn : n ≤ 8) (hi : i < n) (h0 : bi B 1 0 = Int32.ofNat n) (hb : ∀ j, j < n → ba B 3 j = R (13 + 4 * j)) (hk : ∀ j, j < n → key j = (R (13 + 4 * j)).toInt) : ∀ (g nf k : Nat), k + g = n → g < nf → ok_X0_rankOf_L4 nf 1 B (Int32.ofNat i) (Int32.ofNat (rk key i k)) (Int32.ofNat k) ∧ f_X0_rankOf_L4 nf 1 B (Int32.ofNat i) (Int32.ofNat (rk key i k)) (Int32.ofNat k) = Int32.ofNat (rk key i n) := by
  intro g
  induction g with
  | zero =>
    intro nf k hkn hnf
    obtain ⟨nf, rfl⟩ : ∃ q, nf = q + 1 := ⟨nf - 1, by omega⟩
    have w : bi B 1 0 ≤ Int32.ofNat k := by
      rw [h0, le_ofN (by omega) (by omega)]
      omega
    refine ⟨⟨fun _ => trivial, fun h9 => absurd w h9⟩, ?_⟩
    rw [f_X0_rankOf_L4, if_pos w, show k = n by omega]
  | succ g ih =>
    intro nf k hkn hnf
    obtain ⟨nf, rfl⟩ : ∃ q, nf = q + 1 := ⟨nf - 1, by omega⟩
    have w : ¬ bi B 1 0 ≤ Int32.ofNat k := by
      rw [h0, le_ofN (by omega) (by omega)]
      omega
    have q1 : ba B (1 + 2) (ix (Int32.ofNat k)) = R (13 + 4 * k) := by
      rw [ix_o (by omega)]
      exact hb k (by omega)
    have q2 : ba B (1 + 2) (ix (Int32.ofNat i)) = R (13 + 4 * i) := by
      rw [ix_o (by omega)]
      exact hb i hi
    have vk : vp_in (Int32.ofNat k) 8 := in_o (by omega) (by omega)
    have vi : vp_in (Int32.ofNat i) 8 := in_o (by omega) (by omega)
    obtain ⟨r1, r2⟩ := ih nf (k + 1) (by omega) (by omega)
    have k1 := hk k (by omega)
    have k2 := hk i hi
    have wl : (R (13 + 4 * k) ≤ R (13 + 4 * i)) ↔ key k ≤ key i := by rw [i32_le, k1, k2]
    have we : (R (13 + 4 * k) = R (13 + 4 * i)) ↔ key k = key i := by rw [i32_inj, k1, k2]
    have wi : (Int32.ofNat i ≤ Int32.ofNat k) ↔ i ≤ k := le_ofN (by omega) (by omega)
    refine ⟨⟨fun h9 => absurd h9 w, fun _ => ⟨vk, vi, ?_⟩⟩, ?_⟩
    · rw [q1, q2, oad1 k, oad1 (rk key i k)]
      refine ⟨fun c1 => ⟨vk, vi, fun c2 => ⟨fun c3 => ?_, fun c3 => ?_⟩, fun c2 => ?_⟩, fun c1 => ⟨vk, vi, fun c2 => ⟨fun c3 => ?_, fun c3 => ?_⟩, fun c2 => ?_⟩⟩
      · rw [wl] at c1
        rw [we] at c2
        rw [wi] at c3
        rw [rk_s, if_neg (by omega)] at r1
        exact r1
      · rw [wl] at c1
        rw [we] at c2
        rw [wi] at c3
        rw [rk_s, if_pos (by omega)] at r1
        exact r1
      · rw [wl] at c1
        rw [we] at c2
        rw [rk_s, if_neg (by omega)] at r1
        exact r1
      · rw [wl] at c1
        rw [rk_s, if_pos (by omega)] at r1
        exact r1
      · rw [wl] at c1
        rw [rk_s, if_pos (by omega)] at r1
        exact r1
      · rw [wl] at c1
        rw [rk_s, if_pos (by omega)] at r1
        exact r1
    · rw [f_X0_rankOf_L4, if_neg w, q1, q2, oad1 k, oad1 (rk key i k)]
      by_cases c1 : R (13 + 4 * k) ≤ R (13 + 4 * i)
      · rw [if_pos c1]
        rw [wl] at c1
        by_cases c2 : R (13 + 4 * k) = R (13 + 4 * i)
        · rw [if_pos c2]
          rw [we] at c2
          by_cases c3 : Int32.ofNat i ≤ Int32.ofNat k
          · rw [if_pos c3]
            rw [wi] at c3
            rw [rk_s, if_neg (by omega)] at r2
            exact r2
          · rw [if_neg c3]
            rw [wi] at c3
            rw [rk_s, if_pos (by omega)] at r2
            exact r2
        · rw [if_neg c2]
          rw [we] at c2
          rw [rk_s, if_neg (by omega)] at r2
          exact r2
      · rw [if_neg c1]
        rw [wl] at c1
        rw [rk_s, if_pos (by omega)] at r2
        have c2 : ¬ R (13 + 4 * k) = R (13 + 4 * i) := by
          rw [we]
          omega
        rw [if_neg c2]
        exact r2
theorem L_atC {n : Nat} {B : StB} {R : Nat → Int32} {key : Nat → Int} (x : Int32) (hn : n ≤ 8) (h0 : bi B 1 0 = Int32.ofNat n) (hb : ∀ j, j < n → ba B 3 j = R (13 + 4 * j)) (hk : ∀ j, j < n → key j = (R (13 + 4 * j)).toInt) : ∀ (g nf k : Nat), k + g = n → g < nf → ok_X0_atRank_L4 nf 1 B x (lst key n (fun i => Int32.ofNat i) x 0 k) (Int32.ofNat k) ∧ f_X0_atRank_L4 nf 1 B x (lst key n (fun i => Int32.ofNat i) x 0 k) (Int32.ofNat k) = lst key n (fun i => Int32.ofNat i) x 0 n := by
  have hfu : 8 < fu := by unfold fu; omega
  intro g
  induction g with
  | zero =>
    intro nf k hkn hnf
    obtain ⟨nf, rfl⟩ : ∃ q, nf = q + 1 := ⟨nf - 1, by omega⟩
    have w : bi B 1 0 ≤ Int32.ofNat k := by
      rw [h0, le_ofN (by omega) (by omega)]
      omega
    refine ⟨⟨fun _ => trivial, fun h9 => absurd w h9⟩, ?_⟩
    rw [f_X0_atRank_L4, if_pos w, show k = n by omega]
  | succ g ih =>
    intro nf k hkn hnf
    obtain ⟨nf, rfl⟩ : ∃ q, nf = q + 1 := ⟨nf - 1, by omega⟩
    have w : ¬ bi B 1 0 ≤ Int32.ofNat k := by
      rw [h0, le_ofN (by omega) (by omega)]
      omega
    obtain ⟨z1, z2⟩ := L_rkA hn (i := k) (by omega) h0 hb hk n fu 0 (by omega) (by omega)
    clear hfu
    have z1 : ok_X0_rankOf 1 B (Int32.ofNat k) := z1
    have z2 : f_X0_rankOf 1 B (Int32.ofNat k) = Int32.ofNat (rk key k n) := by
      unfold f_X0_rankOf
      rw [nm_eq]
      exact z2
    obtain ⟨r1, r2⟩ := ih nf (k + 1) (by omega) (by omega)
    rw [lst_s] at r1 r2
    refine ⟨⟨fun h9 => absurd h9 w, fun _ => ⟨z1, ?_⟩⟩, ?_⟩
    · intro y hy
      rw [hy, z2, oad1]
      refine ⟨fun c => ?_, fun c => ?_⟩
      · rw [if_pos c] at r1
        exact r1
      · rw [if_neg c] at r1
        exact r1
    · rw [f_X0_atRank_L4, if_neg w, nm_eq, z2, oad1]
      by_cases c : Int32.ofNat (rk key k n) = x
      · rw [if_pos c]
        rw [if_pos c] at r2
        exact r2
      · rw [if_neg c]
        rw [if_neg c] at r2
        exact r2
theorem bal_bd {e n t : Nat} {R : Nat → Int32} (h : RB e (60 * e) n t 0 0 R) {i : Nat} (hi : i < n) : -500000000 ≤ (R (13 + 4 * i)).toInt ∧ (R (13 + 4 * i)).toInt ≤ 500000000 := by
  have a := h.1.2.2 i hi
  have s := h.2.2
  unfold bS at s
  obtain ⟨s1, s2, s3, s4, s5, s6, _⟩ := s
  rw [if_neg (Nat.not_lt_zero i)] at a
  omega
theorem L_rkT {n i : Nat} {B : StB} {R : Nat → Int32} {key : Nat → Int} (hn : n ≤ 10) (hi : i < n) (h0 : bi B 6 0 = Int32.ofNat n) (hb : ∀ j, j < n → ba B 11 j = R (48 + 5 * j)) (hk : ∀ j, j < n → key j = -(R (48 + 5 * j)).toInt) : ∀ (g nf k : Nat), k + g = n → g < nf → ok_X5_positionOf_L4 nf 6 B (Int32.ofNat i) (Int32.ofNat (rk key i k)) (Int32.ofNat k) ∧ f_X5_positionOf_L4 nf 6 B (Int32.ofNat i) (Int32.ofNat (rk key i k)) (Int32.ofNat k) = Int32.ofNat (rk key i n) := by
  intro g
  induction g with
  | zero =>
    intro nf k hkn hnf
    obtain ⟨nf, rfl⟩ : ∃ q, nf = q + 1 := ⟨nf - 1, by omega⟩
    have w : bi B 6 0 ≤ Int32.ofNat k := by
      rw [h0, le_ofN (by omega) (by omega)]
      omega
    refine ⟨⟨fun _ => trivial, fun h9 => absurd w h9⟩, ?_⟩
    rw [f_X5_positionOf_L4, if_pos w, show k = n by omega]
  | succ g ih =>
    intro nf k hkn hnf
    obtain ⟨nf, rfl⟩ : ∃ q, nf = q + 1 := ⟨nf - 1, by omega⟩
    have w : ¬ bi B 6 0 ≤ Int32.ofNat k := by
      rw [h0, le_ofN (by omega) (by omega)]
      omega
    have q1 : ba B (6 + 5) (ix (Int32.ofNat k)) = R (48 + 5 * k) := by
      rw [ix_o (by omega)]
      exact hb k (by omega)
    have q2 : ba B (6 + 5) (ix (Int32.ofNat i)) = R (48 + 5 * i) := by
      rw [ix_o (by omega)]
      exact hb i hi
    have vk : vp_in (Int32.ofNat k) 10 := in_o (by omega) (by omega)
    have vi : vp_in (Int32.ofNat i) 10 := in_o (by omega) (by omega)
    obtain ⟨r1, r2⟩ := ih nf (k + 1) (by omega) (by omega)
    have k1 := hk k (by omega)
    have k2 := hk i hi
    have wl : (R (48 + 5 * i) ≤ R (48 + 5 * k)) ↔ key k ≤ key i := by
      rw [i32_le, k1, k2]
      omega
    have we : (R (48 + 5 * k) = R (48 + 5 * i)) ↔ key k = key i := by
      rw [i32_inj, k1, k2]
      omega
    have wi : (Int32.ofNat i ≤ Int32.ofNat k) ↔ i ≤ k := le_ofN (by omega) (by omega)
    refine ⟨⟨fun h9 => absurd h9 w, fun _ => ⟨vk, vi, ?_⟩⟩, ?_⟩
    · rw [q1, q2, oad1 k, oad1 (rk key i k)]
      refine ⟨fun c1 => ⟨vk, vi, fun c2 => ⟨fun c3 => ?_, fun c3 => ?_⟩, fun c2 => ?_⟩, fun c1 => ⟨vk, vi, fun c2 => ⟨fun c3 => ?_, fun c3 => ?_⟩, fun c2 => ?_⟩⟩
      · rw [wl] at c1
        rw [we] at c2
        rw [wi] at c3
        rw [rk_s, if_neg (by omega)] at r1
        exact r1
      · rw [wl] at c1
        rw [we] at c2
        rw [wi] at c3
        rw [rk_s, if_pos (by omega)] at r1
        exact r1
      · rw [wl] at c1
        rw [we] at c2
        rw [rk_s, if_neg (by omega)] at r1
        exact r1
      · rw [wl] at c1
        rw [rk_s, if_pos (by omega)] at r1
        exact r1
      · rw [wl] at c1
        rw [rk_s, if_pos (by omega)] at r1
        exact r1
      · rw [wl] at c1
        rw [rk_s, if_pos (by omega)] at r1
        exact r1
    · rw [f_X5_positionOf_L4, if_neg w, q1, q2, oad1 k, oad1 (rk key i k)]
      by_cases c1 : R (48 + 5 * i) ≤ R (48 + 5 * k)
      · rw [if_pos c1]
        rw [wl] at c1
        by_cases c2 : R (48 + 5 * k) = R (48 + 5 * i)
        · rw [if_pos c2]
          rw [we] at c2
          by_cases c3 : Int32.ofNat i ≤ Int32.ofNat k
          · rw [if_pos c3]
            rw [wi] at c3
            rw [rk_s, if_neg (by omega)] at r2
            exact r2
          · rw [if_neg c3]
            rw [wi] at c3
            rw [rk_s, if_pos (by omega)] at r2
            exact r2
        · rw [if_neg c2]
          rw [we] at c2
          rw [rk_s, if_neg (by omega)] at r2
          exact r2
      · rw [if_neg c1]
        rw [wl] at c1
        rw [rk_s, if_pos (by omega)] at r2
        have c2 : ¬ R (48 + 5 * k) = R (48 + 5 * i) := by
          rw [we]
          omega
        rw [if_neg c2]
        exact r2
theorem L_idC {n : Nat} {B : StB} {R : Nat → Int32} {key : Nat → Int} (x : Int32) (hn : n ≤ 10) (h0 : bi B 6 0 = Int32.ofNat n) (hb : ∀ j, j < n → ba B 11 j = R (48 + 5 * j)) (hid : ∀ j, j < n → ba B 7 j = R (44 + 5 * j)) (hk : ∀ j, j < n → key j = -(R (48 + 5 * j)).toInt) : ∀ (g nf k : Nat), k + g = n → g < nf → ok_X5_idAt_L4 nf 6 B x (lst key n (fun i => R (44 + 5 * i)) x (-1) k) (Int32.ofNat k) ∧ f_X5_idAt_L4 nf 6 B x (lst key n (fun i => R (44 + 5 * i)) x (-1) k) (Int32.ofNat k) = lst key n (fun i => R (44 + 5 * i)) x (-1) n := by
  have hfu : 10 < fu := by unfold fu; omega
  intro g
  induction g with
  | zero =>
    intro nf k hkn hnf
    obtain ⟨nf, rfl⟩ : ∃ q, nf = q + 1 := ⟨nf - 1, by omega⟩
    have w : bi B 6 0 ≤ Int32.ofNat k := by
      rw [h0, le_ofN (by omega) (by omega)]
      omega
    refine ⟨⟨fun _ => trivial, fun h9 => absurd w h9⟩, ?_⟩
    rw [f_X5_idAt_L4, if_pos w, show k = n by omega]
  | succ g ih =>
    intro nf k hkn hnf
    obtain ⟨nf, rfl⟩ : ∃ q, nf = q + 1 := ⟨nf - 1, by omega⟩
    have w : ¬ bi B 6 0 ≤ Int32.ofNat k := by
      rw [h0, le_ofN (by omega) (by omega)]
      omega
    obtain ⟨z1, z2⟩ := L_rkT hn (i := k) (by omega) h0 hb hk n fu 0 (by omega) (by omega)
    clear hfu
    have z1 : ok_X5_positionOf 6 B (Int32.ofNat k) := z1
    have z2 : f_X5_positionOf 6 B (Int32.ofNat k) = Int32.ofNat (rk key k n) := by
      unfold f_X5_positionOf
      rw [nm_eq]
      exact z2
    have vk : vp_in (Int32.ofNat k) 10 := in_o (by omega) (by omega)
    have qk : ba B (6 + 1) (ix (Int32.ofNat k)) = R (44 + 5 * k) := by
      rw [ix_o (by omega)]
      exact hid k (by omega)
    obtain ⟨r1, r2⟩ := ih nf (k + 1) (by omega) (by omega)
    rw [lst_s] at r1 r2
    refine ⟨⟨fun h9 => absurd h9 w, fun _ => ⟨z1, ?_⟩⟩, ?_⟩
    · intro y hy
      rw [hy, z2, oad1]
      refine ⟨fun c => ⟨vk, ?_⟩, fun c => ?_⟩
      · rw [if_pos c] at r1
        intro b hb'
        rw [hb', qk]
        exact r1
      · rw [if_neg c] at r1
        exact r1
    · rw [f_X5_idAt_L4, if_neg w, nm_eq, z2, oad1]
      by_cases c : Int32.ofNat (rk key k n) = x
      · rw [if_pos c, nm_eq, qk]
        rw [if_pos c] at r2
        exact r2
      · rw [if_neg c]
        rw [if_neg c] at r2
        exact r2
theorem due_bd {e n t : Nat} {R : Nat → Int32} (h : RB e (60 * e) n t 0 0 R) {i : Nat} (hi : i < t) : -500000000 ≤ -(R (48 + 5 * i)).toInt ∧ -(R (48 + 5 * i)).toInt ≤ 500000000 := by
  obtain ⟨_, _, _, _, d1, d2, _⟩ := h.2.1.2.2.1 i hi
  have s := h.2.2
  unfold bS at s
  obtain ⟨s1, s2, s3, s4, s5, s6, _⟩ := s
  omega
/-- the one of rank m -/
def ps (key : Nat → Int) (n m : Nat) : Nat → Nat
  | 0 => 0
  | k + 1 => if rk key k n = m then k else ps key n m k
theorem ps_at (key : Nat → Int) (n m : Nat) : ∀ k, (∃ i, i < k ∧ rk key i n = m) → ps key n m k < k ∧ rk key (ps key n m k) n = m
  | 0, ⟨i, hi, _⟩ => by omega
  | k + 1, ⟨i, hi, e⟩ => by
    show (if rk key k n = m then k else ps key n m k) < k + 1 ∧ rk key (if rk key k n = m then k else ps key n m k) n = m
    by_cases c : rk key k n = m
    · rw [if_pos c]
      exact ⟨by omega, c⟩
    · rw [if_neg c]
      have hik : i ≠ k := by
        intro h
        rw [h] at e
        exact c e
      obtain ⟨h1, h2⟩ := ps_at key n m k ⟨i, by omega, e⟩
      exact ⟨by omega, h2⟩
theorem ps_ok {key : Nat → Int} {n m : Nat} (hm : m < n) : ps key n m n < n ∧ rk key (ps key n m n) n = m := ps_at key n m n (rk_sur key n m hm)
theorem ps_inj {key : Nat → Int} {n a b : Nat} (ha : a < n) (hb : b < n) (h : ps key n a n = ps key n b n) : a = b := by
  have h1 := (ps_ok (key := key) ha).2
  have h2 := (ps_ok (key := key) hb).2
  rw [h] at h1
  omega
theorem ps_rk {key : Nat → Int} {n i : Nat} (hi : i < n) : ps key n (rk key i n) n = i := by
  obtain ⟨h1, h2⟩ := ps_ok (key := key) ((rk_le key i n).2 hi)
  exact rk_inj key n _ _ h1 hi h2
theorem lst_ps (key : Nat → Int) (n m : Nat) (v : Nat → Int32) (d : Int32) (hm : m < n) (hn : n < 100) : ∀ k, k ≤ n → (∃ i, i < k ∧ rk key i n = m) → lst key n v (Int32.ofNat m) d k = v (ps key n m k) := by
  intro k
  induction k with
  | zero =>
    rintro _ ⟨i, hi, _⟩
    omega
  | succ k ih =>
    rintro hk ⟨i, hi, e⟩
    have hr := (rk_le key k n).1
    have hw : (Int32.ofNat (rk key k n) = Int32.ofNat m) ↔ rk key k n = m := ofN_inj (by omega) (by omega)
    rw [lst_s]
    show _ = v (if rk key k n = m then k else ps key n m k)
    by_cases c : rk key k n = m
    · rw [if_pos (hw.mpr c), if_pos c]
    · rw [if_neg (fun h => c (hw.mp h)), if_neg c]
      have hik : i ≠ k := by
        intro h
        rw [h] at e
        exact c e
      exact ih (by omega) ⟨i, by omega, e⟩
/-- the slot of the transfer at m, the account at rank m -/
def tsl (t : Nat) (R : Nat → Int32) (m : Nat) : Nat := ps (fun j => -(R (48 + 5 * j)).toInt) t m t
def asl (n : Nat) (R : Nat → Int32) (m : Nat) : Nat := ps (fun j => (R (13 + 4 * j)).toInt) n m n
theorem tAt {n t : Nat} {B : StB} {R : Nat → Int32} (hT : Ti 0 n 0 0 t B 0 R) {m : Nat} (hm : m < t) : ok_X6_transferAt_n B (Int32.ofNat m) ∧ f_X6_transferAt_n B (Int32.ofNat m) = R (44 + 5 * tsl t R m) ∧ tsl t R m < t := by
  obtain ⟨c1, -, ht, -⟩ := Ti_c hT
  have b0 : bi B 6 0 = Int32.ofNat t := c1
  have hfu : 10 < fu := by unfold fu; omega
  obtain ⟨k1, k2⟩ := L_idC (B := B) (R := R) (key := fun j => -(R (48 + 5 * j)).toInt) (Int32.ofNat m) ht b0 (fun j hj => (Ti_q hT hj).2.2.2.2) (fun j hj => (Ti_q hT hj).1) (fun _ _ => rfl) t fu 0 (by omega) (by omega)
  clear hfu
  have k1 : ok_X5_idAt 6 B (Int32.ofNat m) := k1
  have k2' : f_X5_idAt 6 B (Int32.ofNat m) = lst (fun j => -(R (48 + 5 * j)).toInt) t (fun i => R (44 + 5 * i)) (Int32.ofNat m) (-1) t := by
    unfold f_X5_idAt
    rw [nm_eq]
    exact k2
  have w0 : ¬ Int32.ofNat m < 0 := by
    rw [i32_lt, ofN_toInt (by omega), lit.1]
    omega
  have w1 : Int32.ofNat m < bi B 6 0 := by
    rw [b0]
    exact (lt_ofN (by omega) (by omega)).mpr hm
  refine ⟨⟨fun h => w0 h, fun _ => ⟨fun _ => k1, fun h => h w1⟩⟩, ?_, (ps_ok hm).1⟩
  unfold f_X6_transferAt_n
  rw [if_neg w0, if_pos w1, nm_eq, k2']
  exact lst_ps _ t m _ _ hm (by omega) t (Nat.le_refl t) (rk_sur _ t m hm)
theorem aAt {n t : Nat} {B : StB} {R : Nat → Int32} (hT : Ti 0 n 0 0 t B 0 R) {m : Nat} (hm : m < n) : ok_X6_accountAtRank_n B (Int32.ofNat m) ∧ f_X6_accountAtRank_n B (Int32.ofNat m) = Int32.ofNat (asl n R m) ∧ asl n R m < n := by
  obtain ⟨b1, b2, b3⟩ := Ti_n hT
  have b1 : bi B 1 0 = Int32.ofNat n := b1
  have hfu : 8 < fu := by unfold fu; omega
  obtain ⟨k1, k2⟩ := L_atC (B := B) (R := R) (key := fun j => (R (13 + 4 * j)).toInt) (Int32.ofNat m) b3 b1 (fun j hj => Ti_b hT hj) (fun _ _ => rfl) n fu 0 (by omega) (by omega)
  clear hfu
  have k1 : ok_X0_atRank 1 B (Int32.ofNat m) := k1
  have k2' : f_X0_atRank 1 B (Int32.ofNat m) = lst (fun j => (R (13 + 4 * j)).toInt) n (fun i => Int32.ofNat i) (Int32.ofNat m) 0 n := by
    unfold f_X0_atRank
    rw [nm_eq]
    exact k2
  have h1 := has_1 b1 (by omega) (o_acc hm b3)
  refine ⟨?_, ?_, (ps_ok hm).1⟩
  · intro r hr
    rw [hr, h1]
    exact ⟨fun h9 => absurd h9 (by decide), fun _ => k1⟩
  · unfold f_X6_accountAtRank_n
    rw [nm_eq, h1, if_neg (by decide), nm_eq, k2']
    exact lst_ps _ n m _ _ hm (by omega) n (Nat.le_refl n) (rk_sur _ n m hm)
/-! the law's picks, its deeds -/
theorem ush8 (v : Int32) : 0 ≤ (iushr v 8).toInt ∧ (iushr v 8).toInt < 16777216 := by
  have e : iushr v 8 = (v.toUInt32 >>> 8).toInt32 := by
    unfold iushr
    rw [show ((8 : Int32).toUInt32 &&& Int32.toUInt32 31) = 8 from by decide]
  have h1 : (v.toUInt32 >>> 8).toNat = v.toUInt32.toNat / 256 := by
    rw [UInt32.toNat_shiftRight, show (8 : UInt32).toNat % 32 = 8 from by decide, Nat.shiftRight_eq_div_pow]
  have h2 : v.toUInt32.toNat < 4294967296 := v.toUInt32.toNat_lt
  have h5 : (v.toUInt32 >>> 8).toInt32.toInt = (((v.toUInt32 >>> 8).toNat : Nat) : Int).bmod (2 ^ 32) := BitVec.toInt_eq_toNat_bmod (v.toUInt32 >>> 8).toBitVec
  rw [e, h5, h1]
  have h3 : v.toUInt32.toNat / 256 < 16777216 := by omega
  generalize v.toUInt32.toNat / 256 = w at h3
  have h4 : ((w : Nat) : Int).bmod (2 ^ 32) = (w : Int) := Int.bmod_eq_of_le (by omega) (by omega)
  rw [h4]
  omega
theorem rem_rng {a b : Int32} (ha : 0 ≤ a.toInt) (hb : 0 < b.toInt) : 0 ≤ (a - a / b * b).toInt ∧ (a - a / b * b).toInt < b.toInt := by
  have hb1 : b ≠ -1 := by
    intro h
    rw [h, show (-1 : Int32).toInt = -1 from by decide] at hb
    omega
  have hA := i32_hi a
  have e1 : (a / b).toInt = a.toInt / b.toInt := by
    rw [Int32.toInt_div_of_ne_right _ _ hb1, Int.tdiv_eq_ediv_of_nonneg ha]
  have q0 : 0 ≤ a.toInt / b.toInt * b.toInt := Int.mul_nonneg (Int.ediv_nonneg ha (by omega)) (by omega)
  have q1 : a.toInt / b.toInt * b.toInt ≤ a.toInt := Int.ediv_mul_le _ (by omega)
  have e2 : (a / b * b).toInt = a.toInt / b.toInt * b.toInt := by
    rw [i32_mul (by rw [e1]; omega) (by rw [e1]; omega), e1]
  have e3 : (a - a / b * b).toInt = a.toInt - a.toInt / b.toInt * b.toInt := by
    rw [i32_sub (by rw [e2]; omega) (by rw [e2]; omega), e2]
  have e4 : a.toInt - a.toInt / b.toInt * b.toInt = a.toInt % b.toInt := by
    have := Int.mul_ediv_add_emod a.toInt b.toInt
    rw [Int.mul_comm] at this
    omega
  rw [e3, e4]
  exact ⟨Int.emod_nonneg _ (by omega), Int.emod_lt_of_pos _ hb⟩
theorem pk_rng (S : Nat → Int32) (N : Nat) (x1 : Int32) {x2 : Int32} (h : 0 < x2.toInt) : 0 ≤ (f_L_pick S N x1 x2).toInt ∧ (f_L_pick S N x1 x2).toInt < x2.toInt := by
  unfold f_L_pick
  rw [nm_eq]
  exact rem_rng (ush8 _).1 h
theorem pk_ok (S : Nat → Int32) {N : Nat} (hN : N ≤ 260) {x1 x2 : Int32} (h1 : 0 ≤ x1.toInt) (h2 : 0 < x2.toInt) : ok_L_pick S N x1 x2 := by
  refine ⟨⟨fun _ => trivial, fun h => ?_⟩, fun _ _ h => ?_⟩
  · rw [i32_le, ofN_toInt (by omega)] at h
    exact i32_in h1 (by omega)
  · rw [h, lit.1] at h2
    omega
theorem rem_C2 {a b : Int32} (ha : 0 ≤ a.toInt) (hb : 0 < b.toInt) {t : Nat} (ht : b = Int32.ofNat t) (h100 : t < 100) : ∃ m, m < t ∧ a - a / b * b = Int32.ofNat m := by
  obtain ⟨h1, h2⟩ := rem_rng ha hb
  rw [ht, ofN_toInt (by omega)] at h2
  rw [ht]
  rw [ht] at h1
  exact of_rng h1 h2
theorem id_C {n t : Nat} {B : StB} {R : Nat → Int32} (hT : Ti 0 n 0 0 t B 0 R) {x : Int32} (hx : 0 ≤ x.toInt) : ok_L_id B x := by
  obtain ⟨c1, -, ht, -⟩ := Ti_c hT
  have c1 : f_X6_transferCount B = Int32.ofNat t := c1
  intro r1 hr1
  refine ⟨fun _ => trivial, fun h0 r3 hr3 => ⟨?_, ?_⟩⟩
  · rw [hr3, ← hr1]
    exact h0
  · have ht0 : 0 < t := by
      rw [hr1, c1] at h0
      rcases Nat.eq_zero_or_pos t with h | h
      · rw [h] at h0
        exact absurd rfl h0
      · exact h
    obtain ⟨m, hm, e⟩ := rem_C2 (b := r3) hx (by rw [hr3, c1, ofN_toInt (by omega)]; omega) (hr3.trans c1) (by omega)
    rw [e]
    exact (tAt hT hm).1
/-- a step of the law goes through and leaves a state -/
def Ad (e : Nat) (ok : Prop) (B : StB) : Prop := ok ∧ ∃ e' n' t' R', e' ≤ e + 1 ∧ SS e' n' t' B R'
theorem pos_l {k : Int32} {m : Nat} (h : k.toInt = (m : Int)) (hm : 0 < m) : 0 < k.toInt := by omega
theorem any_J167 {S : Nat → Int32} {N e n t : Nat} {B : StB} {R : Nat → Int32} (hN : N ≤ 260) (h : SS e n t B R) (he : e < 600) {s0 s1 : Int32} (h0 : 0 < s0.toInt) (h1 : 0 ≤ s1.toInt) (s3 s4 : Int32) {s5 : Int32} (h5 : 0 ≤ s5.toInt ∧ s5.toInt ≤ 6) : Ad e (ok_L_any_J167 S N B s0 s1 s3 s4 s5) (f_L_any_J167 S N B s0 s1 s3 s4 s5).2 := by
  obtain ⟨d1, d2⟩ := deed_C h he s5 s4 (s3 + f_L_pick S N s1 s0) 0 0 h5
  refine ⟨⟨pk_ok S hN h1 h0, ?_⟩, d2⟩
  rintro _ rfl
  exact d1
theorem any_J233 {S : Nat → Int32} {N e n t : Nat} {B : StB} {R : Nat → Int32} (hN : N ≤ 260) (h : SS e n t B R) (he : e < 600) {s0 s1 a2 : Int32} (h0 : 0 < s0.toInt) (h1 : 0 ≤ s1.toInt) (h2 : 0 ≤ (a2 + 5).toInt) (s3 s4 s5 : Int32) {s6 : Int32} (h5 : 0 ≤ s6.toInt ∧ s6.toInt ≤ 6) : Ad e (ok_L_any_J233 S N B a2 s0 s1 s3 s4 s5 s6) (f_L_any_J233 S N B a2 s0 s1 s3 s4 s5 s6).2 := by
  obtain ⟨d1, d2⟩ := deed_C h he s6 s5 s4 (s3 + f_L_pick S N s1 s0) (f_L_pick S N (a2 + 5) 6) h5
  refine ⟨⟨pk_ok S hN h1 h0, ?_⟩, d2⟩
  rintro _ rfl
  refine ⟨pk_ok S hN h2 (by decide), ?_⟩
  rintro _ rfl
  exact d1
theorem any_J297 {S : Nat → Int32} {N e n t : Nat} {B : StB} {R : Nat → Int32} (hN : N ≤ 260) (h : SS e n t B R) (he : e < 600) {s0 s1 : Int32} (h0 : 0 < s0.toInt) (h1 : 0 ≤ s1.toInt) (s3 : Int32) {s4 : Int32} (h5 : 0 ≤ s4.toInt ∧ s4.toInt ≤ 6) : Ad e (ok_L_any_J297 S N B s0 s1 s3 s4) (f_L_any_J297 S N B s0 s1 s3 s4).2 := by
  obtain ⟨d1, d2⟩ := deed_C h he s4 (s3 + f_L_pick S N s1 s0) 0 0 0 h5
  refine ⟨⟨pk_ok S hN h1 h0, ?_⟩, d2⟩
  rintro _ rfl
  exact d1
theorem mx1_rng {x : Int32} {n : Nat} (h : x = Int32.ofNat n) (hn : n ≤ 8) : 1 ≤ (mx 1 x).toInt ∧ (mx 1 x).toInt ≤ 8 := by
  have : ∀ n : Nat, n < 9 → 1 ≤ (mx 1 (Int32.ofNat n)).toInt ∧ (mx 1 (Int32.ofNat n)).toInt ≤ 8 := by decide +kernel
  rw [h]
  exact this n (by omega)
theorem acn {n t : Nat} {B : StB} {R : Nat → Int32} (hT : Ti 0 n 0 0 t B 0 R) : f_X6_accountCount B = Int32.ofNat n := (Ti_n hT).1
theorem Ad_ite {e : Nat} {c : Prop} [Decidable c] {P Q : Prop} {f g : Int32 × StB} (h1 : c → Ad e P f.2) (h2 : ¬ c → Ad e Q g.2) : Ad e ((c → P) ∧ (¬ c → Q)) (if c then f else g).2 := by
  by_cases h : c
  · rw [if_pos h]
    exact ⟨⟨fun _ => (h1 h).1, fun h9 => absurd h h9⟩, (h1 h).2⟩
  · rw [if_neg h]
    exact ⟨⟨fun h9 => absurd h9 h, fun _ => (h2 h).1⟩, (h2 h).2⟩
theorem Ad_nm {e : Nat} {α : Type} {v : α} {P : α → Prop} {f : α → Int32 × StB} (h : ∀ r, r = v → Ad e (P r) (f r).2) : Ad e (∀ r, r = v → P r) (nm v f).2 :=
  ⟨fun r hr => (h r hr).1, (h v rfl).2⟩
theorem Ad_ok {e : Nat} {α : Type} {o : Prop} {v : α} {P : α → Prop} {f : α → Int32 × StB} (ho : o) (h : ∀ r, r = v → Ad e (P r) (f r).2) : Ad e (o ∧ ∀ r, r = v → P r) (nm v f).2 :=
  ⟨⟨ho, fun r hr => (h r hr).1⟩, (h v rfl).2⟩
theorem any_C {S : Nat → Int32} {N e n t : Nat} {B : StB} {R : Nat → Int32} (hN : N ≤ 260) (h : SS e n t B R) (he : e < 600) {x : Int32} (hx : 0 ≤ x.toInt ∧ x.toInt < 1000) : Ad e (ok_L_any S N B x) (f_L_any S N B x).2 := by
  have hT := h.1
  have l := lit
  have b3 := (Ti_n hT).2.2
  have mr := mx1_rng (acn hT) b3
  generalize hv : mx 1 (f_X6_accountCount B) = v at mr
  have hx1 : 0 ≤ (x + 1).toInt := by
    rw [i32_add (by omega) (by omega)]
    omega
  have l4 : (4 : Int32).toInt = 4 := by decide
  have hx2 : 0 ≤ (x + 2).toInt := by
    rw [i32_add (by omega) (by omega)]
    omega
  have hx3 : 0 ≤ (x + 3).toInt := by
    rw [i32_add (by omega) (by omega)]
    omega
  have hx4 : 0 ≤ (x + 4).toInt := by
    rw [i32_add (by omega) (by omega)]
    omega
  have hx5 : 0 ≤ (x + 5).toInt := by
    rw [i32_add (by omega) (by omega)]
    omega
  have d : ∀ x1 x2 x3 x4 x5 : Int32, 0 ≤ x1.toInt ∧ x1.toInt ≤ 6 → Ad e (ok_L_deed B x1 x2 x3 x4 x5) (nm (f_L_deed B x1 x2 x3 x4 x5) (fun (z : Int32 × StB) => (z.1, z.2))).2 := fun x1 x2 x3 x4 x5 hx => by
    rw [nm_eq]
    exact deed_C h he x1 x2 x3 x4 x5 hx
  have p1 : (0 : Int32) ≤ 1 := by decide
  unfold f_L_any ok_L_any
  refine Ad_nm fun r1 h1 => Ad_nm fun v2 h2 => ?_
  have hv2 : v2 = v := by rw [h2, h1, hv]
  rw [hv2]
  clear h2 hv2 hv
  have q20 : 0 < (20 : Int32).toInt := by decide
  have q4 : 0 < (4 : Int32).toInt := by decide
  have q2 : 0 < (2 : Int32).toInt := by decide
  have q3 : 0 < (3 : Int32).toInt := by decide
  have q10 : 0 < (10 : Int32).toInt := by decide
  have q60 : 0 < (60 : Int32).toInt := by decide
  have q501 : 0 < (501 : Int32).toInt := by decide
  have q999 : 0 < (999 : Int32).toInt := by decide
  have k0 : 0 ≤ (0 : Int32).toInt ∧ (0 : Int32).toInt ≤ 6 := by decide
  have k1 : 0 ≤ (1 : Int32).toInt ∧ (1 : Int32).toInt ≤ 6 := by decide
  have k2 : 0 ≤ (2 : Int32).toInt ∧ (2 : Int32).toInt ≤ 6 := by decide
  have k3 : 0 ≤ (3 : Int32).toInt ∧ (3 : Int32).toInt ≤ 6 := by decide
  have k4 : 0 ≤ (4 : Int32).toInt ∧ (4 : Int32).toInt ≤ 6 := by decide
  have k5 : 0 ≤ (5 : Int32).toInt ∧ (5 : Int32).toInt ≤ 6 := by decide
  have k6 : 0 ≤ (6 : Int32).toInt ∧ (6 : Int32).toInt ≤ 6 := by decide
  have qv : 0 < v.toInt := by omega
  have hx0 := hx.1
  refine Ad_ok (pk_ok S hN hx1 qv) fun r4 h4 => Ad_ok (pk_ok S hN hx0 q20) fun r6 h6 => ?_
  refine Ad_ite (fun _ => Ad_ok (pk_ok S hN hx2 q4) fun r8 _ => d _ _ _ _ _ k0) fun _ => ?_
  refine Ad_ite (fun _ => Ad_ok (pk_ok S hN hx2 q999) fun r8 _ => d _ _ _ _ _ k1) fun _ => ?_
  refine Ad_ite (fun _ => Ad_ok (pk_ok S hN hx2 q999) fun r8 _ => d _ _ _ _ _ k1) fun _ => ?_
  refine Ad_ite (fun _ => Ad_ok (pk_ok S hN hx2 q999) fun r8 _ => d _ _ _ _ _ k1) fun _ => ?_
  refine Ad_ite (fun _ => Ad_ok (pk_ok S hN hx3 q2) fun r8 _ => Ad_ite (fun _ => any_J167 hN h he q60 hx2 _ _ k2) (fun _ => any_J167 hN h he q999 hx2 _ _ k2)) fun _ => ?_
  refine Ad_ite (fun _ => Ad_ok (pk_ok S hN hx3 q2) fun r8 _ => Ad_ite (fun _ => any_J167 hN h he q60 hx2 _ _ k2) (fun _ => any_J167 hN h he q999 hx2 _ _ k2)) fun _ => ?_
  refine Ad_ite (fun _ => Ad_ok (pk_ok S hN hx3 q2) fun r8 _ => Ad_ite (fun _ => any_J167 hN h he q60 hx2 _ _ k2) (fun _ => any_J167 hN h he q999 hx2 _ _ k2)) fun _ => ?_
  refine Ad_ite (fun _ => Ad_ok (pk_ok S hN hx2 q501) fun r8 _ => d _ _ _ _ _ k3) fun _ => ?_
  refine Ad_ite (fun _ => Ad_ok (pk_ok S hN hx2 q501) fun r8 _ => d _ _ _ _ _ k3) fun _ => ?_
  refine Ad_ite (fun _ => Ad_ok (pk_ok S hN hx2 qv) fun r7 _ => Ad_ok (pk_ok S hN hx4 q2) fun r8 _ => Ad_ite (fun _ => any_J233 hN h he q60 hx3 hx5 _ _ _ k4) (fun _ => any_J233 hN h he q999 hx3 hx5 _ _ _ k4)) fun _ => ?_
  refine Ad_ite (fun _ => Ad_ok (pk_ok S hN hx2 qv) fun r7 _ => Ad_ok (pk_ok S hN hx4 q2) fun r8 _ => Ad_ite (fun _ => any_J233 hN h he q60 hx3 hx5 _ _ _ k4) (fun _ => any_J233 hN h he q999 hx3 hx5 _ _ _ k4)) fun _ => ?_
  refine Ad_ite (fun _ => Ad_ok (pk_ok S hN hx2 qv) fun r7 _ => Ad_ok (pk_ok S hN hx4 q2) fun r8 _ => Ad_ite (fun _ => any_J233 hN h he q60 hx3 hx5 _ _ _ k4) (fun _ => any_J233 hN h he q999 hx3 hx5 _ _ _ k4)) fun _ => ?_
  refine Ad_ite (fun _ => Ad_ok (pk_ok S hN hx2 qv) fun r7 _ => Ad_ok (pk_ok S hN hx4 q2) fun r8 _ => Ad_ite (fun _ => any_J233 hN h he q60 hx3 hx5 _ _ _ k4) (fun _ => any_J233 hN h he q999 hx3 hx5 _ _ _ k4)) fun _ => ?_
  refine Ad_ite (fun _ => Ad_ok (pk_ok S hN hx2 qv) fun r7 _ => Ad_ok (pk_ok S hN hx4 q2) fun r8 _ => Ad_ite (fun _ => any_J233 hN h he q60 hx3 hx5 _ _ _ k4) (fun _ => any_J233 hN h he q999 hx3 hx5 _ _ _ k4)) fun _ => ?_
  refine Ad_ite (fun _ => Ad_ok (pk_ok S hN hx2 q10) fun r76 h76 => Ad_ok (id_C hT (by rw [h76]; exact (pk_rng S N _ q10).1)) fun r78 _ => d _ _ _ _ _ k5) fun _ => ?_
  exact Ad_ok (pk_ok S hN hx3 q2) fun r8 _ => Ad_ite (fun _ => any_J297 hN h he q3 hx2 _ k6) (fun _ => any_J297 hN h he q60 hx2 _ k6)
