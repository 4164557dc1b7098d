/-! the pure part: who leads to whom -/
theorem bitT : ∀ v, v < 256 → ∀ j, j < 8 → ((((Int32.ofNat v) >>> (Int32.ofNat j &&& 31)) &&& 1) = 1 ↔ Nat.testBit v j = true) ∧ (Int32.ofNat v ||| (1 <<< (Int32.ofNat j &&& 31))) = Int32.ofNat (v ||| 2 ^ j) ∧ v ||| 2 ^ j < 256 := by decide +kernel
theorem bitO (v j i : Nat) : Nat.testBit (v ||| 2 ^ j) i = true ↔ Nat.testBit v i = true ∨ j = i := by
  rw [Nat.testBit_or, Nat.testBit_two_pow, Bool.or_eq_true, decide_eq_true_eq]
def rdk (snd rcv : Nat → Nat) (a : Nat) : Nat → Nat → Nat
  | 0, v => v
  | k + 1, v => if snd k = a ∨ Nat.testBit (rdk snd rcv a k v) (snd k) = true then rdk snd rcv a k v ||| 2 ^ rcv k else rdk snd rcv a k v
theorem rdk_s (snd rcv : Nat → Nat) (a k v : Nat) : rdk snd rcv a (k + 1) v = if snd k = a ∨ Nat.testBit (rdk snd rcv a k v) (snd k) = true then rdk snd rcv a k v ||| 2 ^ rcv k else rdk snd rcv a k v := rfl
theorem rdk_lt {snd rcv : Nat → Nat} {a v t : Nat} (hr : ∀ k, k < t → rcv k < 8) (hv : v < 256) : ∀ k, k ≤ t → rdk snd rcv a k v < 256 := by
  intro k
  induction k with
  | zero => intro _; exact hv
  | succ k ih =>
    intro hk
    rw [rdk_s]
    have := ih (by omega)
    split
    · exact (bitT _ this _ (hr k (by omega))).2.2
    · exact this
theorem rdk_up (snd rcv : Nat → Nat) (a v j : Nat) (h : Nat.testBit v j = true) : ∀ k, Nat.testBit (rdk snd rcv a k v) j = true := by
  intro k
  induction k with
  | zero => exact h
  | succ k ih =>
    rw [rdk_s]
    split
    · rw [bitO]
      exact Or.inl ih
    · exact ih
theorem rdk_of (snd rcv : Nat → Nat) (a v j : Nat) : ∀ k, Nat.testBit (rdk snd rcv a k v) j = true → Nat.testBit v j = true ∨ ∃ q, q < k ∧ rcv q = j := by
  intro k
  induction k with
  | zero => intro h; exact Or.inl h
  | succ k ih =>
    rw [rdk_s]
    have up : Nat.testBit (rdk snd rcv a k v) j = true → Nat.testBit v j = true ∨ ∃ q, q < k + 1 ∧ rcv q = j := by
      intro h
      rcases ih h with h | ⟨q, h1, h2⟩
      · exact Or.inl h
      · exact Or.inr ⟨q, by omega, h2⟩
    split
    · rw [bitO]
      rintro (h | h)
      · exact up h
      · exact Or.inr ⟨k, by omega, h⟩
    · exact up
def ct (f : Nat → Bool) : Nat → Nat
  | 0 => 0
  | m + 1 => ct f m + (if f m = true then 1 else 0)
theorem ct_s (f : Nat → Bool) (m : Nat) : ct f (m + 1) = ct f m + (if f m = true then 1 else 0) := rfl
theorem ct_le (f : Nat → Bool) : ∀ m, ct f m ≤ m := by
  intro m
  induction m with
  | zero => exact Nat.le_refl 0
  | succ m ih =>
    rw [ct_s]
    split <;> omega
theorem ct_mo (f g : Nat → Bool) : ∀ m, (∀ i, i < m → f i = true → g i = true) → ct f m ≤ ct g m ∧ ((∃ i, i < m ∧ g i = true ∧ ¬ f i = true) → ct f m < ct g m) := by
  intro m
  induction m with
  | zero => intro _; exact ⟨Nat.le_refl 0, fun ⟨i, hi, _⟩ => absurd hi (Nat.not_lt_zero i)⟩
  | succ m ih =>
    intro h
    obtain ⟨i1, i2⟩ := ih (fun i hi => h i (by omega))
    rw [ct_s, ct_s]
    by_cases c : f m = true
    · rw [if_pos c, if_pos (h m (by omega) c)]
      refine ⟨by omega, fun ⟨i, hi, g1, f1⟩ => ?_⟩
      have : i ≠ m := fun e => f1 (by rw [e]; exact c)
      have := i2 ⟨i, by omega, g1, f1⟩
      omega
    · rw [if_neg c]
      by_cases d : g m = true
      · rw [if_pos d]
        exact ⟨by omega, fun _ => by omega⟩
      · rw [if_neg d]
        refine ⟨by omega, fun ⟨i, hi, g1, f1⟩ => ?_⟩
        have : i ≠ m := fun e => d (by rw [← e]; exact g1)
        have := i2 ⟨i, by omega, g1, f1⟩
        omega
/-- a round that changes something -/
theorem rdk_new {snd rcv : Nat → Nat} {a v t : Nat} (hr : ∀ k, k < t → rcv k < 8) (hv : v < 256) (hne : rdk snd rcv a t v ≠ v) : ∃ j, j < 8 ∧ Nat.testBit (rdk snd rcv a t v) j = true ∧ ¬ Nat.testBit v j = true := by
  apply Classical.byContradiction
  intro hno
  apply hne
  apply Nat.eq_of_testBit_eq
  intro j
  by_cases hj : j < 8
  · by_cases c : Nat.testBit v j = true
    · rw [c]
      exact rdk_up snd rcv a v j c t
    · cases h : Nat.testBit (rdk snd rcv a t v) j
      · cases h2 : Nat.testBit v j
        · rfl
        · exact absurd h2 c
      · exact absurd ⟨j, hj, h, c⟩ hno
  · have e : 2 ^ 8 ≤ 2 ^ j := Nat.pow_le_pow_right (by decide) (by omega)
    have e8 : 2 ^ 8 = 256 := by decide
    have := rdk_lt (snd := snd) (a := a) hr hv t (Nat.le_refl t)
    rw [Nat.testBit_lt_two_pow (by omega), Nat.testBit_lt_two_pow (by omega)]
def itF (F : Nat → Nat) : Nat → Nat → Nat
  | 0, v => v
  | n + 1, v => itF F n (F v)
theorem itF_s (F : Nat → Nat) : ∀ n v, itF F (n + 1) v = F (itF F n v) := by
  intro n
  induction n with
  | zero => intro v; rfl
  | succ n ih => intro v; exact ih (F v)
theorem itF_fix {F μ : Nat → Nat} {N : Nat} (h1 : ∀ v, v < 256 → F v < 256) (h2 : ∀ v, v < 256 → F v ≠ v → μ v < μ (F v)) (h3 : ∀ v, μ v ≤ N) : F (itF F N 0) = itF F N 0 := by
  have hb : ∀ n, itF F n 0 < 256 := by
    intro n
    induction n with
    | zero => exact (by decide : 0 < 256)
    | succ n ih => rw [itF_s]; exact h1 _ ih
  have key : ∀ n, F (itF F n 0) = itF F n 0 ∨ n + 1 ≤ μ (itF F (n + 1) 0) := by
    intro n
    induction n with
    | zero =>
      by_cases c : F (itF F 0 0) = itF F 0 0
      · exact Or.inl c
      · have := h2 _ (hb 0) c
        rw [itF_s]
        exact Or.inr (by omega)
    | succ n ih =>
      rcases ih with h | h
      · left
        rw [itF_s, h, h]
      · by_cases c : F (itF F (n + 1) 0) = itF F (n + 1) 0
        · exact Or.inl c
        · have := h2 _ (hb (n + 1)) c
          rw [itF_s F (n + 1)]
          exact Or.inr (by omega)
  rcases key N with h | h
  · exact h
  · have := h3 (itF F (N + 1) 0)
    omega
theorem itF_end {F : Nat → Nat} {N : Nat} (h : F (itF F N 0) = itF F N 0) : ∀ m, itF F (N + m) 0 = itF F N 0 := by
  intro m
  induction m with
  | zero => rfl
  | succ m ih =>
    rw [show N + (m + 1) = (N + m) + 1 by omega, itF_s, ih, h]
/-- both come to the same end -/
theorem rounds {snd rcv : Nat → Nat} {a t : Nat} (hr : ∀ k, k < t → rcv k < 8) : itF (rdk snd rcv a t) 8 0 = itF (rdk snd rcv a t) (t + 1) 0 := by
  have hb : ∀ v, v < 256 → rdk snd rcv a t v < 256 := fun v hv => rdk_lt hr hv t (Nat.le_refl t)
  have f8 : rdk snd rcv a t (itF (rdk snd rcv a t) 8 0) = itF (rdk snd rcv a t) 8 0 := by
    refine itF_fix (μ := fun v => ct (fun j => Nat.testBit v j) 8) hb (fun v hv hne => ?_) (fun v => ct_le _ 8)
    obtain ⟨j, hj, j1, j2⟩ := rdk_new hr hv hne
    exact (ct_mo (fun j => Nat.testBit v j) (fun j => Nat.testBit (rdk snd rcv a t v) j) 8 (fun i _ h => rdk_up snd rcv a v i h t)).2 ⟨j, hj, j1, j2⟩
  have ft : rdk snd rcv a t (itF (rdk snd rcv a t) t 0) = itF (rdk snd rcv a t) t 0 := by
    refine itF_fix (μ := fun v => ct (fun k => Nat.testBit v (rcv k)) t) hb (fun v hv hne => ?_) (fun v => ct_le _ t)
    obtain ⟨j, hj, j1, j2⟩ := rdk_new hr hv hne
    have ⟨q, hq, e⟩ : ∃ q, q < t ∧ rcv q = j := by
      rcases rdk_of snd rcv a v j t j1 with h | h
      · exact absurd h j2
      · exact h
    exact (ct_mo (fun k => Nat.testBit v (rcv k)) (fun k => Nat.testBit (rdk snd rcv a t v) (rcv k)) t (fun i _ h => rdk_up snd rcv a v _ h t)).2 ⟨q, hq, by rw [e]; exact j1, by rw [e]; exact j2⟩
  by_cases h : 8 ≤ t + 1
  · have := itF_end f8 (t + 1 - 8)
    rw [show 8 + (t + 1 - 8) = t + 1 by omega] at this
    exact this.symm
  · have e1 := itF_end ft (8 - t)
    have e2 := itF_end ft 1
    rw [show t + (8 - t) = 8 by omega] at e1
    rw [e1, e2]
theorem L_c15 {t a : Nat} {B : StB} {snd rcv : Nat → Nat} (x1 x3 : Int32) (ht : t ≤ 10) (ha : a < 8) (h0 : bi B 6 0 = Int32.ofNat t) (hs : ∀ k, k < t → snd k < 8 ∧ rcv k < 8 ∧ ba B 8 k = Int32.ofNat (snd k) ∧ ba B 9 k = Int32.ofNat (rcv k)) (v : Nat) (hv : v < 256) : ∀ (g n k : Nat), k + g = t → g < n → ok_X5_connect_L15 n 6 B (Int32.ofNat a) x1 (Int32.ofNat (rdk snd rcv a k v)) x3 (Int32.ofNat k) ∧ f_X5_connect_L15 n 6 B (Int32.ofNat a) x1 (Int32.ofNat (rdk snd rcv a k v)) x3 (Int32.ofNat k) = Int32.ofNat (rdk snd rcv a t v) := by
  intro g
  induction g with
  | zero =>
    intro n k hk hn
    obtain ⟨n, rfl⟩ : ∃ q, n = q + 1 := ⟨n - 1, by omega⟩
    have w : bi B 6 0 ≤ Int32.ofNat k := by
      rw [h0, le_ofN (by omega) (by omega)]
      omega
    refine ⟨⟨fun _ => trivial, fun h9 => absurd w h9⟩, ?_⟩
    rw [f_X5_connect_L15, if_pos w, show k = t by omega]
  | succ g ih =>
    intro n k hk hn
    obtain ⟨n, rfl⟩ : ∃ q, n = q + 1 := ⟨n - 1, by omega⟩
    have w : ¬ bi B 6 0 ≤ Int32.ofNat k := by
      rw [h0, le_ofN (by omega) (by omega)]
      omega
    obtain ⟨s1, s2, s3, s4⟩ := hs k (by omega)
    have q1 : ba B (6 + 2) (ix (Int32.ofNat k)) = Int32.ofNat (snd k) := by
      rw [ix_o (by omega)]
      exact s3
    have q2 : ba B (6 + 3) (ix (Int32.ofNat k)) = Int32.ofNat (rcv k) := by
      rw [ix_o (by omega)]
      exact s4
    have vk : vp_in (Int32.ofNat k) 10 := in_o (by omega) (by omega)
    have hw := rdk_lt (snd := snd) (a := a) (v := v) (fun k hk => (hs k hk).2.1) hv k (by omega)
    obtain ⟨r1, r2⟩ := ih n (k + 1) (by omega) (by omega)
    rw [rdk_s] at r1 r2
    have t1 := (bitT _ hw (snd k) s1).1
    have t2 := (bitT _ hw (rcv k) s2).2.1
    have we : (Int32.ofNat (snd k) = Int32.ofNat a) ↔ snd k = a := ofN_inj (by omega) (by omega)
    refine ⟨⟨fun h9 => absurd h9 w, fun _ => ⟨vk, ?_⟩⟩, ?_⟩
    · intro y hy
      rw [hy, q1, q2, t2, oad1]
      refine ⟨fun c1 => ⟨vk, ?_⟩, fun c1 => ⟨fun c2 => ⟨vk, ?_⟩, fun c2 => ?_⟩⟩
      · intro z hz
        rw [hz]
        rw [if_pos (Or.inl (we.mp c1))] at r1
        exact r1
      · intro z hz
        rw [hz]
        rw [if_pos (Or.inr (t1.mp c2))] at r1
        exact r1
      · rw [if_neg (by rw [← we, ← t1]; exact fun h => h.elim c1 c2)] at r1
        exact r1
    · rw [f_X5_connect_L15, if_neg w, nm_eq, q1, q2, t2, oad1]
      by_cases c1 : Int32.ofNat (snd k) = Int32.ofNat a
      · rw [if_pos c1, nm_eq]
        rw [if_pos (Or.inl (we.mp c1))] at r2
        exact r2
      · rw [if_neg c1]
        by_cases c2 : ((Int32.ofNat (rdk snd rcv a k v) >>> (Int32.ofNat (snd k) &&& 31)) &&& 1) = 1
        · rw [if_pos c2, nm_eq]
          rw [if_pos (Or.inr (t1.mp c2))] at r2
          exact r2
        · rw [if_neg c2]
          rw [if_neg (by rw [← we, ← t1]; exact fun h => h.elim c1 c2)] at r2
          exact r2
theorem L_m49 {t a : Nat} {M : StM} {snd rcv : Nat → Nat} (x1 x3 : Int32) (ht : t ≤ 10) (ha : a < 8) (h0 : ma M 0 3 = Int32.ofNat t) (hs : ∀ k, k < t → snd k < 8 ∧ rcv k < 8 ∧ ma M 0 (45 + 5 * k) = Int32.ofNat (snd k) ∧ ma M 0 (46 + 5 * k) = Int32.ofNat (rcv k)) (v : Nat) (hv : v < 256) : ∀ (g n k : Nat), k + g = t → g < n → ok_X7_leadsTo_L49 n M (Int32.ofNat a) x1 (Int32.ofNat (rdk snd rcv a k v)) x3 (Int32.ofNat k) ∧ f_X7_leadsTo_L49 n M (Int32.ofNat a) x1 (Int32.ofNat (rdk snd rcv a k v)) x3 (Int32.ofNat k) = Int32.ofNat (rdk snd rcv a t v) := by
  have i3 : ix 3 = 3 := by decide
  intro g
  induction g with
  | zero =>
    intro n k hk hn
    obtain ⟨n, rfl⟩ : ∃ q, n = q + 1 := ⟨n - 1, by omega⟩
    have w : ma M 0 (ix 3) ≤ Int32.ofNat k := by
      rw [i3, h0, le_ofN (by omega) (by omega)]
      omega
    refine ⟨⟨fun _ => trivial, fun h9 => absurd w h9⟩, ?_⟩
    rw [f_X7_leadsTo_L49, if_pos w, show k = t by omega]
  | succ g ih =>
    intro n k hk hn
    obtain ⟨n, rfl⟩ : ∃ q, n = q + 1 := ⟨n - 1, by omega⟩
    have w : ¬ ma M 0 (ix 3) ≤ Int32.ofNat k := by
      rw [i3, h0, le_ofN (by omega) (by omega)]
      omega
    obtain ⟨s1, s2, s3, s4⟩ := hs k (by omega)
    have p1 : f_X7_ofPlace M (Int32.ofNat k) 1 = Int32.ofNat (snd k) ∧ ok_X7_ofPlace M (Int32.ofNat k) 1 := by
      have := plM0 (M := M) (k := k) (j := 1) (by omega) (by decide)
      rw [show 44 + 5 * k + 1 = 45 + 5 * k by omega, s3] at this
      exact this
    have p2 : f_X7_ofPlace M (Int32.ofNat k) 2 = Int32.ofNat (rcv k) ∧ ok_X7_ofPlace M (Int32.ofNat k) 2 := by
      have := plM0 (M := M) (k := k) (j := 2) (by omega) (by decide)
      rw [show 44 + 5 * k + 2 = 46 + 5 * k by omega, s4] at this
      exact this
    have hw := rdk_lt (snd := snd) (a := a) (v := v) (fun k hk => (hs k hk).2.1) hv k (by omega)
    obtain ⟨r1, r2⟩ := ih n (k + 1) (by omega) (by omega)
    rw [rdk_s] at r1 r2
    have t1 := (bitT _ hw (snd k) s1).1
    have t2 := (bitT _ hw (rcv k) s2).2.1
    have we : (Int32.ofNat (snd k) = Int32.ofNat a) ↔ snd k = a := ofN_inj (by omega) (by omega)
    refine ⟨⟨fun h9 => absurd h9 w, fun _ => ⟨p1.2, ?_⟩⟩, ?_⟩
    · intro y hy
      rw [hy, p1.1, p2.1, oad1]
      refine ⟨fun c1 => ⟨p2.2, ?_⟩, fun c1 => ⟨p1.2, ?_⟩⟩
      · intro b hb z hz
        rw [hz, hb, t2]
        rw [if_pos (Or.inl (we.mp c1))] at r1
        exact r1
      · intro b hb
        rw [hb]
        refine ⟨fun c2 => ⟨p2.2, ?_⟩, fun c2 => ?_⟩
        · intro b hb z hz
          rw [hz, hb, t2]
          rw [if_pos (Or.inr (t1.mp c2))] at r1
          exact r1
        · intro z hz
          rw [hz, Int32.or_zero]
          rw [if_neg (by rw [← we, ← t1]; exact fun h => h.elim c1 c2)] at r1
          exact r1
    · rw [f_X7_leadsTo_L49, if_neg w, nm_eq, p1.1, p2.1, oad1, nm_eq, nm_eq, t2]
      by_cases c1 : Int32.ofNat (snd k) = Int32.ofNat a
      · rw [if_pos c1]
        rw [if_pos (Or.inl (we.mp c1))] at r2
        exact r2
      · first | rw [if_neg c1, nm_eq] | rw [if_neg c1]
        by_cases c2 : ((Int32.ofNat (rdk snd rcv a k v) >>> (Int32.ofNat (snd k) &&& 31)) &&& 1) = 1
        · first | rw [if_pos c2, nm_eq, nm_eq] | rw [if_pos c2, nm_eq] | rw [if_pos c2]
          rw [if_pos (Or.inr (t1.mp c2))] at r2
          exact r2
        · rw [if_neg c2, nm_eq, Int32.or_zero]
          rw [if_neg (by rw [← we, ← t1]; exact fun h => h.elim c1 c2)] at r2
          exact r2
theorem L_c5 {t a : Nat} {B : StB} {snd rcv : Nat → Nat} (x1 : Int32) (ht : t ≤ 10) (ha : a < 8) (h0 : bi B 6 0 = Int32.ofNat t) (hs : ∀ k, k < t → snd k < 8 ∧ rcv k < 8 ∧ ba B 8 k = Int32.ofNat (snd k) ∧ ba B 9 k = Int32.ofNat (rcv k)) : ∀ (g n i v : Nat), i + g = 8 → g < n → v < 256 → ok_X5_connect_L5 n 6 B (Int32.ofNat a) x1 (Int32.ofNat v) (Int32.ofNat i) ∧ f_X5_connect_L5 n 6 B (Int32.ofNat a) x1 (Int32.ofNat v) (Int32.ofNat i) = Int32.ofNat (itF (rdk snd rcv a t) g v) := by
  have hfu : 10 < fu := by unfold fu; omega
  intro g
  induction g with
  | zero =>
    intro n i v hi hn hv
    obtain ⟨n, rfl⟩ : ∃ q, n = q + 1 := ⟨n - 1, by omega⟩
    have w : (8 : Int32) ≤ Int32.ofNat i := (le_ofN (a := 8) (by omega) (by omega)).mpr (by omega)
    refine ⟨⟨fun _ => trivial, fun h9 => absurd w h9⟩, ?_⟩
    rw [f_X5_connect_L5, if_pos w]
    rfl
  | succ g ih =>
    intro n i v hi hn hv
    obtain ⟨n, rfl⟩ : ∃ q, n = q + 1 := ⟨n - 1, by omega⟩
    have w : ¬ (8 : Int32) ≤ Int32.ofNat i := by
      rw [show (8 : Int32) = Int32.ofNat 8 from rfl, le_ofN (by omega) (by omega)]
      omega
    obtain ⟨z1, z2⟩ := L_c15 x1 (Int32.ofNat i) ht ha h0 hs v hv t fu 0 (by omega) (by omega)
    clear hfu
    have z1 : ok_X5_connect_L15 fu 6 B (Int32.ofNat a) x1 (Int32.ofNat v) (Int32.ofNat i) 0 := z1
    have z2 : f_X5_connect_L15 fu 6 B (Int32.ofNat a) x1 (Int32.ofNat v) (Int32.ofNat i) 0 = Int32.ofNat (rdk snd rcv a t v) := z2
    obtain ⟨r1, r2⟩ := ih n (i + 1) (rdk snd rcv a t v) (by omega) (by omega) (rdk_lt (fun k hk => (hs k hk).2.1) hv t (Nat.le_refl t))
    refine ⟨⟨fun h9 => absurd h9 w, fun _ => ⟨z1, ?_⟩⟩, ?_⟩
    · intro y hy
      rw [hy, z2, oad1]
      exact r1
    · rw [f_X5_connect_L5, if_neg w, nm_eq, z2, oad1]
      exact r2
theorem L_m35 {t a : Nat} {M : StM} {snd rcv : Nat → Nat} (x1 : Int32) (ht : t ≤ 10) (ha : a < 8) (h0 : ma M 0 3 = Int32.ofNat t) (hs : ∀ k, k < t → snd k < 8 ∧ rcv k < 8 ∧ ma M 0 (45 + 5 * k) = Int32.ofNat (snd k) ∧ ma M 0 (46 + 5 * k) = Int32.ofNat (rcv k)) : ∀ (g n i v : Nat), i + g = t + 1 → g < n → v < 256 → ok_X7_leadsTo_L35 n M (Int32.ofNat a) x1 (Int32.ofNat v) (Int32.ofNat i) ∧ f_X7_leadsTo_L35 n M (Int32.ofNat a) x1 (Int32.ofNat v) (Int32.ofNat i) = Int32.ofNat (itF (rdk snd rcv a t) g v) := by
  have hfu : 10 < fu := by unfold fu; omega
  have i3 : ix 3 = 3 := by decide
  intro g
  induction g with
  | zero =>
    intro n i v hi hn hv
    obtain ⟨n, rfl⟩ : ∃ q, n = q + 1 := ⟨n - 1, by omega⟩
    have w : ma M 0 (ix 3) < Int32.ofNat i := by
      rw [i3, h0, lt_ofN (by omega) (by omega)]
      omega
    refine ⟨⟨fun _ => trivial, fun h9 => absurd w h9⟩, ?_⟩
    rw [f_X7_leadsTo_L35, if_pos w]
    rfl
  | succ g ih =>
    intro n i v hi hn hv
    obtain ⟨n, rfl⟩ : ∃ q, n = q + 1 := ⟨n - 1, by omega⟩
    have w : ¬ ma M 0 (ix 3) < Int32.ofNat i := by
      rw [i3, h0, lt_ofN (by omega) (by omega)]
      omega
    obtain ⟨z1, z2⟩ := L_m49 x1 (Int32.ofNat i) ht ha h0 hs v hv t fu 0 (by omega) (by omega)
    clear hfu
    have z1 : ok_X7_leadsTo_L49 fu M (Int32.ofNat a) x1 (Int32.ofNat v) (Int32.ofNat i) 0 := z1
    have z2 : f_X7_leadsTo_L49 fu M (Int32.ofNat a) x1 (Int32.ofNat v) (Int32.ofNat i) 0 = Int32.ofNat (rdk snd rcv a t v) := z2
    obtain ⟨r1, r2⟩ := ih n (i + 1) (rdk snd rcv a t v) (by omega) (by omega) (rdk_lt (fun k hk => (hs k hk).2.1) hv t (Nat.le_refl t))
    refine ⟨⟨fun h9 => absurd h9 w, fun _ => ⟨z1, ?_⟩⟩, ?_⟩
    · intro y hy
      rw [hy, z2, oad1]
      exact r1
    · rw [f_X7_leadsTo_L35, if_neg w, nm_eq, z2, oad1]
      exact r2
theorem case_34 {u : Nat} {B : StB} {M : StM} (hI : Inv u B M) (hu : u < 512) (O : StO) (y1 y2 : Int32) : okc_34 B M O y1 y2 ∧ Inv (u + 1) (stB_34 B M O y1 y2) (stM_34 B M O y1 y2) := by
  have hN := fun v => Inv_15 hI hu v
  obtain ⟨e, ty, he, hu2, ⟨n, t, hT, hR⟩, hS, hH, hE, hRd, hTt⟩ := hI
  obtain ⟨b1, b2, b3⟩ := Ti_n hT
  have b1 : bi B 1 0 = Int32.ofNat n := b1
  have ht : t ≤ 10 := hR.2.1.1
  obtain ⟨r1, r0⟩ := reqA (x := y1) b1 b3
  obtain ⟨s1, s0⟩ := reqA (x := y2) b1 b3
  obtain ⟨m1, m0⟩ := acc_M (M := M) (x := y1) b2 b3
  obtain ⟨l1, l0⟩ := acc_M (M := M) (x := y2) b2 b3
  unfold okc_34 stB_34 stM_34
  have bad : f_X6_leadsTo B y1 y2 = (1, 0, B) → ok_X6_leadsTo B y1 y2 → f_X7_leadsTo M y1 y2 = f_X7_leadsTo_J22 M y1 y2 0 → ok_X7_leadsTo M y1 y2 → (ok_X6_leadsTo B y1 y2 ∧ ((f_X6_leadsTo B y1 y2).1 = 0 ∨ (f_X6_leadsTo B y1 y2).1 = 1) ∧ ok_X7_leadsTo M y1 y2 ∧ f_X7_thrown (f_X7_leadsTo M y1 y2).2 = (wrZ [1] (f_X6_leadsTo B y1 y2) O).1 ∧ ((wrZ [1] (f_X6_leadsTo B y1 y2) O).1 = 0 → (wrZ [1] (f_X6_leadsTo B y1 y2) O).2.2.1 = (if (f_X7_leadsTo M y1 y2).1 = 0 then (0 : Int64) else 1))) ∧ Inv (u + 1) (wrZ [1] (f_X6_leadsTo B y1 y2) O).2.1 (f_X7_leadsTo M y1 y2).2 := by
    intro e1 e2 e3 e4
    have e5 : f_X7_leadsTo_J22 M y1 y2 0 = (0, smi M 15 1) := by
      unfold f_X7_leadsTo_J22
      rw [nm_eq, goes_0]
      rfl
    rw [e3, e5, e1]
    exact ⟨⟨e2, Or.inr rfl, e4, rfl, fun h => absurd (show (1 : Int32) = 0 from h) (by decide)⟩, hN 1⟩
  have okJ0 : ok_X7_leadsTo_J22 M y1 y2 0 := by
    refine ⟨okgoes (Or.inl rfl), ?_⟩
    intro z hz
    rw [hz, goes_0]
    exact ⟨fun _ => trivial, fun h9 => absurd rfl h9⟩
  by_cases hx : acc n y1
  · by_cases hy : acc n y2
    · obtain ⟨a, ha, rfl⟩ := acc_o hx
      have hs : ∀ k, k < t → ix (ma M 0 (45 + 5 * k)) < 8 ∧ ix (ma M 0 (46 + 5 * k)) < 8 ∧ ma M 0 (45 + 5 * k) = Int32.ofNat (ix (ma M 0 (45 + 5 * k))) ∧ ma M 0 (46 + 5 * k) = Int32.ofNat (ix (ma M 0 (46 + 5 * k))) := by
        intro k hk
        obtain ⟨⟨i, hi, e1⟩, ⟨j, hj, e2⟩, _⟩ := hR.2.1.2.2.1 k hk
        rw [e1, e2, ix_o (by omega), ix_o (by omega)]
        exact ⟨by omega, by omega, rfl, rfl⟩
      have hfu : 12 < fu := by unfold fu; omega
      obtain ⟨c1, c2⟩ := L_c5 (B := B) (snd := fun k => ix (ma M 0 (45 + 5 * k))) (rcv := fun k => ix (ma M 0 (46 + 5 * k))) y2 ht (a := a) (by omega) (Ti_c hT).1 (fun k hk => ⟨(hs k hk).1, (hs k hk).2.1, (Ti_q hT hk).2.1.trans (hs k hk).2.2.1, (Ti_q hT hk).2.2.1.trans (hs k hk).2.2.2⟩) 8 fu 0 0 (by omega) (by omega) (by omega)
      obtain ⟨d1, d2⟩ := L_m35 (M := smi M 15 0) (snd := fun k => ix (ma M 0 (45 + 5 * k))) (rcv := fun k => ix (ma M 0 (46 + 5 * k))) y2 ht (a := a) (by omega) hR.2.1.2.1 hs (t + 1) fu 0 0 (by omega) (by omega) (by omega)
      clear hfu
      have er := rounds (snd := fun k => ix (ma M 0 (45 + 5 * k))) (rcv := fun k => ix (ma M 0 (46 + 5 * k))) (a := a) (t := t) (fun k hk => (hs k hk).2.1)
      rw [er] at c2
      generalize itF (rdk (fun k => ix (ma M 0 (45 + 5 * k))) (fun k => ix (ma M 0 (46 + 5 * k))) a t) (t + 1) 0 = W at c2 d2
      have c1 : ok_X5_connect_L5 fu 6 B (Int32.ofNat a) y2 0 0 := c1
      have c2 : f_X5_connect_L5 fu 6 B (Int32.ofNat a) y2 0 0 = Int32.ofNat W := c2
      have d1 : ok_X7_leadsTo_L35 fu (smi M 15 0) (Int32.ofNat a) y2 0 0 := d1
      have d2 : f_X7_leadsTo_L35 fu (smi M 15 0) (Int32.ofNat a) y2 0 0 = Int32.ofNat W := d2
      have ec : f_X5_connect 6 B (Int32.ofNat a) y2 = if ((Int32.ofNat W >>> (y2 &&& 31)) &&& 1) = 1 then 1 else 0 := by
        unfold f_X5_connect
        rw [nm_eq, c2]
      have ef : f_X6_leadsTo B (Int32.ofNat a) y2 = (0, (if ((Int32.ofNat W >>> (y2 &&& 31)) &&& 1) = 1 then 1 else 0), B) := by
        unfold f_X6_leadsTo
        rw [nm_eq, r1 hx]
        show (if 0 = 0 then nm (f_X6_requireAccount B y2) _ else _) = _
        rw [if_pos rfl, nm_eq, s1 hy]
        show (if 0 = 0 then nm (f_X5_connect 6 B (Int32.ofNat a) y2) _ else _) = _
        rw [if_pos rfl, nm_eq, ec]
      have em : f_X7_leadsTo M (Int32.ofNat a) y2 = if ((Int32.ofNat W >>> (y2 &&& 31)) &&& 1) = 1 then (1, smi M 15 0) else (0, smi M 15 0) := by
        unfold f_X7_leadsTo
        rw [nm_eq, m1 hx, if_neg (by decide), nm_eq, l1 hy, if_neg (by decide)]
        unfold f_X7_leadsTo_J22
        rw [nm_eq, goes_1]
        show (if (1 : Int32) = 0 then _ else nm (f_X7_leadsTo_L35 fu (smi M 15 0) (Int32.ofNat a) y2 0 0) _) = _
        rw [if_neg (by decide), nm_eq, d2]
      have om : ok_X7_leadsTo M (Int32.ofNat a) y2 := by
        refine ⟨okisAcc _ _, ?_⟩
        intro r hr
        rw [hr, m1 hx]
        refine ⟨fun h9 => absurd h9 (by decide), fun _ => ⟨okisAcc _ _, ?_⟩⟩
        intro q hq
        rw [hq, l1 hy]
        refine ⟨fun h9 => absurd h9 (by decide), fun _ => ⟨okgoes (Or.inr rfl), ?_⟩⟩
        intro z hz
        rw [hz, goes_1]
        exact ⟨fun _ => trivial, fun _ => d1⟩
      have oc : ok_X6_leadsTo B (Int32.ofNat a) y2 := by
        intro z hz _
        rw [hz, r1 hx]
        intro y hy' _
        rw [hy', s1 hy]
        refine ⟨c1, ?_⟩
        intro r hr
        rw [hr, show f_X5_connect 6 (0, (0 : Int32), B).2.2 (Int32.ofNat a) y2 = _ from ec]
        refine nar01 ?_
        split
        · exact Or.inr rfl
        · exact Or.inl rfl
      rw [ef, em]
      by_cases c : ((Int32.ofNat W >>> (y2 &&& 31)) &&& 1) = 1
      · rw [if_pos c, if_pos c]
        exact ⟨⟨oc, Or.inl rfl, om, rfl, fun _ => rfl⟩, hN 0⟩
      · rw [if_neg c, if_neg c]
        exact ⟨⟨oc, Or.inl rfl, om, rfl, fun _ => rfl⟩, hN 0⟩
    · refine bad ?_ ?_ ?_ ?_
      · unfold f_X6_leadsTo
        rw [nm_eq, r1 hx]
        show (if 0 = 0 then nm (f_X6_requireAccount B y2) _ else _) = _
        rw [if_pos rfl, nm_eq, s0 hy]
        rfl
      · intro z hz _
        rw [hz, r1 hx]
        intro y hy' h0
        rw [hy', s0 hy] at h0
        exact absurd (show (1 : Nat) = 0 from h0) (by decide)
      · unfold f_X7_leadsTo
        rw [nm_eq, m1 hx, if_neg (by decide), nm_eq, l0 hy, if_pos rfl]
        rfl
      · refine ⟨okisAcc _ _, ?_⟩
        intro r hr
        rw [hr, m1 hx]
        refine ⟨fun h9 => absurd h9 (by decide), fun _ => ⟨okisAcc _ _, ?_⟩⟩
        intro q hq
        rw [hq, l0 hy]
        exact ⟨fun _ => okJ0, fun h9 => absurd rfl h9⟩
  · refine bad ?_ ?_ ?_ ?_
    · unfold f_X6_leadsTo
      rw [nm_eq, r0 hx]
      rfl
    · intro z hz h0
      rw [hz, r0 hx] at h0
      exact absurd (show (1 : Nat) = 0 from h0) (by decide)
    · unfold f_X7_leadsTo
      rw [nm_eq, m0 hx, if_pos rfl]
      rfl
    · refine ⟨okisAcc _ _, ?_⟩
      intro r hr
      rw [hr, m0 hx]
      exact ⟨fun _ => okJ0, fun h9 => absurd rfl h9⟩
