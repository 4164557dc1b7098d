/-! the pure part: ranks -/
def rk (key : Nat → Int) (i : Nat) : Nat → Nat
  | 0 => 0
  | m + 1 => rk key i m + (if key i < key m ∨ (key m = key i ∧ m < i) then 1 else 0)
theorem rk_s (key : Nat → Int) (i m : Nat) : rk key i (m + 1) = rk key i m + (if key i < key m ∨ (key m = key i ∧ m < i) then 1 else 0) := rfl
theorem rk_le (key : Nat → Int) (i : Nat) : ∀ m, rk key i m ≤ m ∧ (i < m → rk key i m < m) := by
  intro m
  induction m with
  | zero => exact ⟨Nat.le_refl 0, fun h => absurd h (Nat.not_lt_zero i)⟩
  | succ m ih =>
    rw [rk_s]
    by_cases hm : m = i
    · subst hm
      rw [if_neg (by omega)]
      exact ⟨by omega, fun _ => by omega⟩
    · split
      · exact ⟨by omega, fun h => by have := ih.2 (by omega); omega⟩
      · exact ⟨by omega, fun h => by have := ih.2 (by omega); omega⟩
theorem rk_lt (key : Nat → Int) (i j : Nat) (h : key j < key i ∨ (key i = key j ∧ i < j)) : ∀ m, rk key i m ≤ rk key j m ∧ (i < m → rk key i m < rk key j m) := by
  intro m
  induction m with
  | zero => exact ⟨Nat.le_refl 0, fun h => absurd h (Nat.not_lt_zero i)⟩
  | succ m ih =>
    rw [rk_s, rk_s]
    by_cases hm : m = i
    · subst hm
      rw [if_neg (by omega), if_pos h]
      exact ⟨by omega, fun _ => by omega⟩
    · by_cases c : key i < key m ∨ (key m = key i ∧ m < i)
      · rw [if_pos c, if_pos (by omega)]
        exact ⟨by omega, fun h => by have := ih.2 (by omega); omega⟩
      · rw [if_neg c]
        split
        · exact ⟨by omega, fun h => by have := ih.2 (by omega); omega⟩
        · exact ⟨by omega, fun h => by have := ih.2 (by omega); omega⟩
theorem rk_inj (key : Nat → Int) (n i j : Nat) (hi : i < n) (hj : j < n) (h : rk key i n = rk key j n) : i = j := by
  by_cases c : key j < key i ∨ (key i = key j ∧ i < j)
  · have := (rk_lt key i j c n).2 hi
    omega
  · by_cases d : key i < key j ∨ (key j = key i ∧ j < i)
    · have := (rk_lt key j i d n).2 hj
      omega
    · omega
theorem php : ∀ (n : Nat) (f : Nat → Nat), (∀ i, i < n → f i < n) → (∀ i j, i < n → j < n → f i = f j → i = j) → ∀ m, m < n → ∃ i, i < n ∧ f i = m := by
  intro n
  induction n with
  | zero => intro f _ _ m hm; omega
  | succ n ih =>
    intro f h1 h2 m hm
    by_cases hm0 : m = f n
    · exact ⟨n, by omega, hm0.symm⟩
    · have hfn := h1 n (by omega)
      have g1 : ∀ i, i < n → (if f i = n then f n else f i) < n := by
        intro i hi
        have a1 := h1 i (by omega)
        split
        · rename_i e
          have : f n ≠ n := by
            intro e2
            have := h2 i n (by omega) (by omega) (by omega)
            omega
          omega
        · omega
      have g2 : ∀ i j, i < n → j < n → (if f i = n then f n else f i) = (if f j = n then f n else f j) → i = j := by
        intro i j hi hj e
        by_cases c1 : f i = n
        · by_cases c2 : f j = n
          · exact h2 i j (by omega) (by omega) (by omega)
          · rw [if_pos c1, if_neg c2] at e
            have := h2 n j (by omega) (by omega) e
            omega
        · by_cases c2 : f j = n
          · rw [if_neg c1, if_pos c2] at e
            have := h2 i n (by omega) (by omega) e
            omega
          · rw [if_neg c1, if_neg c2] at e
            exact h2 i j (by omega) (by omega) e
      by_cases hmn : m < n
      · obtain ⟨i, hi, e⟩ := ih (fun i => if f i = n then f n else f i) g1 g2 m hmn
        have e : (if f i = n then f n else f i) = m := e
        by_cases c : f i = n
        · rw [if_pos c] at e
          exact absurd e.symm hm0
        · rw [if_neg c] at e
          exact ⟨i, by omega, e⟩
      · have hmn' : m = n := by omega
        have hv : f n < n := by omega
        obtain ⟨i, hi, e⟩ := ih (fun i => if f i = n then f n else f i) g1 g2 (f n) hv
        have e : (if f i = n then f n else f i) = f n := e
        by_cases c : f i = n
        · exact ⟨i, by omega, by omega⟩
        · rw [if_neg c] at e
          have := h2 i n (by omega) (by omega) e
          omega
theorem rk_sur (key : Nat → Int) (n m : Nat) (hm : m < n) : ∃ i, i < n ∧ rk key i n = m := php n (fun i => rk key i n) (fun i hi => (rk_le key i n).2 hi) (fun i j hi hj h => rk_inj key n i j hi hj h) m hm
/-- the last one of that rank -/
def lst (key : Nat → Int) (n : Nat) (v : Nat → Int32) (x d : Int32) : Nat → Int32
  | 0 => d
  | k + 1 => if Int32.ofNat (rk key k n) = x then v k else lst key n v x d k
theorem lst_s (key : Nat → Int) (n : Nat) (v : Nat → Int32) (x d : Int32) (k : Nat) : lst key n v x d (k + 1) = if Int32.ofNat (rk key k n) = x then v k else lst key n v x d k := rfl
theorem lst_no (key : Nat → Int) (n : Nat) (v : Nat → Int32) (x d : Int32) : ∀ k, (∀ i, i < k → Int32.ofNat (rk key i n) ≠ x) → lst key n v x d k = d := by
  intro k
  induction k with
  | zero => intro _; rfl
  | succ k ih =>
    intro h
    rw [lst_s, if_neg (h k (by omega))]
    exact ih (fun i hi => h i (by omega))
theorem lst_ok (key : Nat → Int) (n : Nat) (v : Nat → Int32) (x d d' : Int32) : ∀ k, (∃ i, i < k ∧ Int32.ofNat (rk key i n) = x) → (∃ i, i < k ∧ lst key n v x d k = v i) ∧ lst key n v x d k = lst key n v x d' k := by
  intro k
  induction k with
  | zero => intro ⟨i, hi, _⟩; omega
  | succ k ih =>
    intro ⟨i, hi, e⟩
    rw [lst_s, lst_s]
    by_cases c : Int32.ofNat (rk key k n) = x
    · rw [if_pos c, if_pos c]
      exact ⟨⟨k, by omega, rfl⟩, rfl⟩
    · rw [if_neg c, if_neg c]
      have hik : i ≠ k := by
        intro h
        rw [h] at e
        exact c e
      obtain ⟨⟨j, hj, e1⟩, e2⟩ := ih ⟨i, by omega, e⟩
      exact ⟨⟨j, by omega, e1⟩, e2⟩
theorem lst_c (key : Nat → Int) (n : Nat) (v : Nat → Int32) (x d d' : Int32) (hn : n < 100) : (∀ m, m < n → x = Int32.ofNat m → (∃ i, i < n ∧ lst key n v x d n = v i) ∧ lst key n v x d n = lst key n v x d' n) ∧ ((∀ m, m < n → x ≠ Int32.ofNat m) → lst key n v x d n = d) := by
  refine ⟨fun m hm hx => ?_, fun h => ?_⟩
  · obtain ⟨i, hi, e⟩ := rk_sur key n m hm
    exact lst_ok key n v x d d' n ⟨i, hi, by rw [e, hx]⟩
  · exact lst_no key n v x d n (fun i hi e => h _ ((rk_le key i n).2 hi) e.symm)
/-! accounts -/
theorem L_rkA {n i : Nat} {B : StB} {R : Nat → Int32} {key : Nat → Int} (hn : n ≤ 8) (hi : i < n) (h0 : bi B 1 0 = Int32.ofNat n) (hb : ∀ j, j < n → ba B 3 j = R (13 + 4 * j)) (hk : ∀ j, j < n → key j = (R (13 + 4 * j)).toInt) : ∀ (g nf k : Nat), k + g = n → g < nf → ok_X0_rankOf_L4 nf 1 B (Int32.ofNat i) (Int32.ofNat (rk key i k)) (Int32.ofNat k) ∧ f_X0_rankOf_L4 nf 1 B (Int32.ofNat i) (Int32.ofNat (rk key i k)) (Int32.ofNat k) = Int32.ofNat (rk key i n) := by
  intro g
  induction g with
  | zero =>
    intro nf k hkn hnf
    obtain ⟨nf, rfl⟩ : ∃ q, nf = q + 1 := ⟨nf - 1, by omega⟩
    have w : bi B 1 0 ≤ Int32.ofNat k := by
      rw [h0, le_ofN (by omega) (by omega)]
      omega
    refine ⟨⟨fun _ => trivial, fun h9 => absurd w h9⟩, ?_⟩
    rw [f_X0_rankOf_L4, if_pos w, show k = n by omega]
  | succ g ih =>
    intro nf k hkn hnf
    obtain ⟨nf, rfl⟩ : ∃ q, nf = q + 1 := ⟨nf - 1, by omega⟩
    have w : ¬ bi B 1 0 ≤ Int32.ofNat k := by
      rw [h0, le_ofN (by omega) (by omega)]
      omega
    have q1 : ba B (1 + 2) (ix (Int32.ofNat k)) = R (13 + 4 * k) := by
      rw [ix_o (by omega)]
      exact hb k (by omega)
    have q2 : ba B (1 + 2) (ix (Int32.ofNat i)) = R (13 + 4 * i) := by
      rw [ix_o (by omega)]
      exact hb i hi
    have vk : vp_in (Int32.ofNat k) 8 := in_o (by omega) (by omega)
    have vi : vp_in (Int32.ofNat i) 8 := in_o (by omega) (by omega)
    obtain ⟨r1, r2⟩ := ih nf (k + 1) (by omega) (by omega)
    have k1 := hk k (by omega)
    have k2 := hk i hi
    have wl : (R (13 + 4 * k) ≤ R (13 + 4 * i)) ↔ key k ≤ key i := by rw [i32_le, k1, k2]
    have we : (R (13 + 4 * k) = R (13 + 4 * i)) ↔ key k = key i := by rw [i32_inj, k1, k2]
    have wi : (Int32.ofNat i ≤ Int32.ofNat k) ↔ i ≤ k := le_ofN (by omega) (by omega)
    refine ⟨⟨fun h9 => absurd h9 w, fun _ => ⟨vk, vi, ?_⟩⟩, ?_⟩
    · rw [q1, q2, oad1 k, oad1 (rk key i k)]
      refine ⟨fun c1 => ⟨vk, vi, fun c2 => ⟨fun c3 => ?_, fun c3 => ?_⟩, fun c2 => ?_⟩, fun c1 => ⟨vk, vi, fun c2 => ⟨fun c3 => ?_, fun c3 => ?_⟩, fun c2 => ?_⟩⟩
      · rw [wl] at c1
        rw [we] at c2
        rw [wi] at c3
        rw [rk_s, if_neg (by omega)] at r1
        exact r1
      · rw [wl] at c1
        rw [we] at c2
        rw [wi] at c3
        rw [rk_s, if_pos (by omega)] at r1
        exact r1
      · rw [wl] at c1
        rw [we] at c2
        rw [rk_s, if_neg (by omega)] at r1
        exact r1
      · rw [wl] at c1
        rw [rk_s, if_pos (by omega)] at r1
        exact r1
      · rw [wl] at c1
        rw [rk_s, if_pos (by omega)] at r1
        exact r1
      · rw [wl] at c1
        rw [rk_s, if_pos (by omega)] at r1
        exact r1
    · rw [f_X0_rankOf_L4, if_neg w, q1, q2, oad1 k, oad1 (rk key i k)]
      by_cases c1 : R (13 + 4 * k) ≤ R (13 + 4 * i)
      · rw [if_pos c1]
        rw [wl] at c1
        by_cases c2 : R (13 + 4 * k) = R (13 + 4 * i)
        · rw [if_pos c2]
          rw [we] at c2
          by_cases c3 : Int32.ofNat i ≤ Int32.ofNat k
          · rw [if_pos c3]
            rw [wi] at c3
            rw [rk_s, if_neg (by omega)] at r2
            exact r2
          · rw [if_neg c3]
            rw [wi] at c3
            rw [rk_s, if_pos (by omega)] at r2
            exact r2
        · rw [if_neg c2]
          rw [we] at c2
          rw [rk_s, if_neg (by omega)] at r2
          exact r2
      · rw [if_neg c1]
        rw [wl] at c1
        rw [rk_s, if_pos (by omega)] at r2
        have c2 : ¬ R (13 + 4 * k) = R (13 + 4 * i) := by
          rw [we]
          omega
        rw [if_neg c2]
        exact r2
theorem of_m {M : StM} {n i j : Nat} (h : ma M 0 1 = Int32.ofNat n) (hn : n ≤ 8) (hi : i < n) (hj : j < 4) : f_X7_of M (Int32.ofNat i) (Int32.ofNat j) = ma M 0 (12 + 4 * i + j) ∧ ok_X7_of M (Int32.ofNat i) (Int32.ofNat j) := by
  have := of_R (M := M) (R := ma M 0) h hn hi hj
  rwa [rs_self] at this
theorem L_rkM {n i : Nat} {M : StM} {key : Nat → Int} (x a2 : Int32) (hn : n ≤ 8) (hi : i < n) (h0 : ma M 0 1 = Int32.ofNat n) (hk : ∀ j, j < n → key j = (ma M 0 (13 + 4 * j)).toInt) (hb : ∀ j, j < n → -500000000 ≤ key j ∧ key j ≤ 500000000) : ∀ (g nf k : Nat), k + g = n → g < nf → ok_X7_accountAtRank_L20 nf M x a2 (Int32.ofNat i) (Int32.ofNat (rk key i k)) (Int32.ofNat k) ∧ f_X7_accountAtRank_L20 nf M x a2 (Int32.ofNat i) (Int32.ofNat (rk key i k)) (Int32.ofNat k) = Int32.ofNat (rk key i n) := by
  have i1 : ix 1 = 1 := by decide
  intro g
  induction g with
  | zero =>
    intro nf k hkn hnf
    obtain ⟨nf, rfl⟩ : ∃ q, nf = q + 1 := ⟨nf - 1, by omega⟩
    have w : ma M 0 (ix 1) ≤ Int32.ofNat k := by
      rw [i1, h0, le_ofN (by omega) (by omega)]
      omega
    refine ⟨⟨fun _ => trivial, fun h9 => absurd w h9⟩, ?_⟩
    rw [f_X7_accountAtRank_L20, if_pos w, show k = n by omega]
  | succ g ih =>
    intro nf k hkn hnf
    obtain ⟨nf, rfl⟩ : ∃ q, nf = q + 1 := ⟨nf - 1, by omega⟩
    have w : ¬ ma M 0 (ix 1) ≤ Int32.ofNat k := by
      rw [i1, h0, le_ofN (by omega) (by omega)]
      omega
    have p1 : f_X7_of M (Int32.ofNat k) 1 = ma M 0 (13 + 4 * k) ∧ ok_X7_of M (Int32.ofNat k) 1 := by
      have := of_m (j := 1) h0 hn (i := k) (by omega) (by decide)
      rw [show 12 + 4 * k + 1 = 13 + 4 * k by omega] at this
      exact this
    have p2 : f_X7_of M (Int32.ofNat i) 1 = ma M 0 (13 + 4 * i) ∧ ok_X7_of M (Int32.ofNat i) 1 := by
      have := of_m (j := 1) h0 hn (i := i) (by omega) (by decide)
      rw [show 12 + 4 * i + 1 = 13 + 4 * i by omega] at this
      exact this
    obtain ⟨r1, r2⟩ := ih nf (k + 1) (by omega) (by omega)
    have k1 := hk k (by omega)
    have k2 := hk i hi
    have b1 := hb k (by omega)
    have b2 := hb i hi
    have sub : (ma M 0 (13 + 4 * k) - ma M 0 (13 + 4 * i)).toInt = key k - key i := by
      rw [i32_sub (by omega) (by omega), k1, k2]
    have wl : (0 < ma M 0 (13 + 4 * k) - ma M 0 (13 + 4 * i)) ↔ key i < key k := by
      rw [i32_lt, sub, lit.1]
      omega
    have we : (ma M 0 (13 + 4 * k) - ma M 0 (13 + 4 * i) = 0) ↔ key k = key i := by
      rw [i32_inj, sub, lit.1]
      omega
    have wi : (Int32.ofNat i ≤ Int32.ofNat k) ↔ i ≤ k := le_ofN (by omega) (by omega)
    have a0 : Int32.ofNat (rk key i k) + 0 = Int32.ofNat (rk key i k) := Int32.add_zero _
    refine ⟨⟨fun h9 => absurd h9 w, fun _ => ⟨p1.2, ?_⟩⟩, ?_⟩
    · intro y hy
      refine ⟨p2.2, ?_⟩
      intro z hz v hv
      rw [hv, hy, hz, p1.1, p2.1, oad1 k, oad1 (rk key i k), a0]
      refine ⟨fun c1 => ?_, fun c1 => ⟨fun c2 => ⟨fun c3 => ?_, fun c3 => ?_⟩, fun c2 => ?_⟩⟩
      · rw [wl] at c1
        rw [rk_s, if_pos (by omega)] at r1
        intro a ha
        rw [ha]
        exact r1
      · rw [wl] at c1
        rw [we] at c2
        rw [wi] at c3
        rw [rk_s, if_neg (by omega)] at r1
        intro a ha
        rw [ha]
        exact r1
      · rw [wl] at c1
        rw [we] at c2
        rw [wi] at c3
        rw [rk_s, if_pos (by omega)] at r1
        intro a ha
        rw [ha]
        exact r1
      · rw [wl] at c1
        rw [we] at c2
        rw [rk_s, if_neg (by omega)] at r1
        intro a ha
        rw [ha]
        exact r1
    · rw [f_X7_accountAtRank_L20, if_neg w, nm_eq, nm_eq, p1.1, p2.1, nm_eq, oad1 k, oad1 (rk key i k), a0]
      by_cases c1 : 0 < ma M 0 (13 + 4 * k) - ma M 0 (13 + 4 * i)
      · rw [if_pos c1, nm_eq]
        rw [wl] at c1
        rw [rk_s, if_pos (by omega)] at r2
        exact r2
      · rw [if_neg c1]
        rw [wl] at c1
        by_cases c2 : ma M 0 (13 + 4 * k) - ma M 0 (13 + 4 * i) = 0
        · rw [if_pos c2]
          rw [we] at c2
          by_cases c3 : Int32.ofNat i ≤ Int32.ofNat k
          · rw [if_pos c3, nm_eq]
            rw [wi] at c3
            rw [rk_s, if_neg (by omega)] at r2
            exact r2
          · rw [if_neg c3, nm_eq]
            rw [wi] at c3
            rw [rk_s, if_pos (by omega)] at r2
            exact r2
        · rw [if_neg c2, nm_eq]
          rw [we] at c2
          rw [rk_s, if_neg (by omega)] at r2
          exact r2
