/-! p51: ways over transfers -/
theorem bitT : ∀ v, v < 256 → ∀ j, j < 8 → ((((Int32.ofNat v) >>> (Int32.ofNat j &&& 31)) &&& 1) = 1 ↔ Nat.testBit v j = true) ∧ (Int32.ofNat v ||| (1 <<< (Int32.ofNat j &&& 31))) = Int32.ofNat (v ||| 2 ^ j) ∧ v ||| 2 ^ j < 256 := by decide +kernel
theorem bitO (v j i : Nat) : Nat.testBit (v ||| 2 ^ j) i = true ↔ Nat.testBit v i = true ∨ j = i := by
  rw [Nat.testBit_or, Nat.testBit_two_pow, Bool.or_eq_true, decide_eq_true_eq]
def rdk (snd rcv : Nat → Nat) (a : Nat) : Nat → Nat → Nat
  | 0, v => v
  | k + 1, v => if snd k = a ∨ Nat.testBit (rdk snd rcv a k v) (snd k) = true then rdk snd rcv a k v ||| 2 ^ rcv k else rdk snd rcv a k v
theorem rdk_s (snd rcv : Nat → Nat) (a k v : Nat) : rdk snd rcv a (k + 1) v = if snd k = a ∨ Nat.testBit (rdk snd rcv a k v) (snd k) = true then rdk snd rcv a k v ||| 2 ^ rcv k else rdk snd rcv a k v := rfl
theorem rdk_lt {snd rcv : Nat → Nat} {a v t : Nat} (hr : ∀ k, k < t → rcv k < 8) (hv : v < 256) : ∀ k, k ≤ t → rdk snd rcv a k v < 256 := by
  intro k
  induction k with
  | zero => intro _; exact hv
  | succ k ih =>
    intro hk
    rw [rdk_s]
    have := ih (by omega)
    split
    · exact (bitT _ this _ (hr k (by omega))).2.2
    · exact this
theorem rdk_up (snd rcv : Nat → Nat) (a v j : Nat) (h : Nat.testBit v j = true) : ∀ k, Nat.testBit (rdk snd rcv a k v) j = true := by
  intro k
  induction k with
  | zero => exact h
  | succ k ih =>
    rw [rdk_s]
    split
    · rw [bitO]
      exact Or.inl ih
    · exact ih
theorem rdk_of (snd rcv : Nat → Nat) (a v j : Nat) : ∀ k, Nat.testBit (rdk snd rcv a k v) j = true → Nat.testBit v j = true ∨ ∃ q, q < k ∧ rcv q = j := by
  intro k
  induction k with
  | zero => intro h; exact Or.inl h
  | succ k ih =>
    rw [rdk_s]
    have up : Nat.testBit (rdk snd rcv a k v) j = true → Nat.testBit v j = true ∨ ∃ q, q < k + 1 ∧ rcv q = j := by
      intro h
      rcases ih h with h | ⟨q, h1, h2⟩
      · exact Or.inl h
      · exact Or.inr ⟨q, by omega, h2⟩
    split
    · rw [bitO]
      rintro (h | h)
      · exact up h
      · exact Or.inr ⟨k, by omega, h⟩
    · exact up
def ct (f : Nat → Bool) : Nat → Nat
  | 0 => 0
  | m + 1 => ct f m + (if f m = true then 1 else 0)
theorem ct_s (f : Nat → Bool) (m : Nat) : ct f (m + 1) = ct f m + (if f m = true then 1 else 0) := rfl
theorem ct_le (f : Nat → Bool) : ∀ m, ct f m ≤ m := by
  intro m
  induction m with
  | zero => exact Nat.le_refl 0
  | succ m ih =>
    rw [ct_s]
    split <;> omega
theorem ct_mo (f g : Nat → Bool) : ∀ m, (∀ i, i < m → f i = true → g i = true) → ct f m ≤ ct g m ∧ ((∃ i, i < m ∧ g i = true ∧ ¬ f i = true) → ct f m < ct g m) := by
  intro m
  induction m with
  | zero => intro _; exact ⟨Nat.le_refl 0, fun ⟨i, hi, _⟩ => absurd hi (Nat.not_lt_zero i)⟩
  | succ m ih =>
    intro h
    obtain ⟨i1, i2⟩ := ih (fun i hi => h i (by omega))
    rw [ct_s, ct_s]
    by_cases c : f m = true
    · rw [if_pos c, if_pos (h m (by omega) c)]
      refine ⟨by omega, fun ⟨i, hi, g1, f1⟩ => ?_⟩
      have : i ≠ m := fun e => f1 (by rw [e]; exact c)
      have := i2 ⟨i, by omega, g1, f1⟩
      omega
    · rw [if_neg c]
      by_cases d : g m = true
      · rw [if_pos d]
        exact ⟨by omega, fun _ => by omega⟩
      · rw [if_neg d]
        refine ⟨by omega, fun ⟨i, hi, g1, f1⟩ => ?_⟩
        have : i ≠ m := fun e => d (by rw [← e]; exact g1)
        have := i2 ⟨i, by omega, g1, f1⟩
        omega
theorem rdk_new {snd rcv : Nat → Nat} {a v t : Nat} (hr : ∀ k, k < t → rcv k < 8) (hv : v < 256) (hne : rdk snd rcv a t v ≠ v) : ∃ j, j < 8 ∧ Nat.testBit (rdk snd rcv a t v) j = true ∧ ¬ Nat.testBit v j = true := by
  apply Classical.byContradiction
  intro hno
  apply hne
  apply Nat.eq_of_testBit_eq
  intro j
  by_cases hj : j < 8
  · by_cases c : Nat.testBit v j = true
    · rw [c]
      exact rdk_up snd rcv a v j c t
    · cases h : Nat.testBit (rdk snd rcv a t v) j
      · cases h2 : Nat.testBit v j
        · rfl
        · exact absurd h2 c
      · exact absurd ⟨j, hj, h, c⟩ hno
  · have e : 2 ^ 8 ≤ 2 ^ j := Nat.pow_le_pow_right (by decide) (by omega)
    have e8 : 2 ^ 8 = 256 := by decide
    have := rdk_lt (snd := snd) (a := a) hr hv t (Nat.le_refl t)
    rw [Nat.testBit_lt_two_pow (by omega), Nat.testBit_lt_two_pow (by omega)]
def itF (F : Nat → Nat) : Nat → Nat → Nat
  | 0, v => v
  | n + 1, v => itF F n (F v)
theorem itF_s (F : Nat → Nat) : ∀ n v, itF F (n + 1) v = F (itF F n v) := by
  intro n
  induction n with
  | zero => intro v; rfl
  | succ n ih => intro v; exact ih (F v)
theorem itF_fix {F μ : Nat → Nat} {N : Nat} (h1 : ∀ v, v < 256 → F v < 256) (h2 : ∀ v, v < 256 → F v ≠ v → μ v < μ (F v)) (h3 : ∀ v, μ v ≤ N) : F (itF F N 0) = itF F N 0 := by
  have hb : ∀ n, itF F n 0 < 256 := by
    intro n
    induction n with
    | zero => exact (by decide : 0 < 256)
    | succ n ih => rw [itF_s]; exact h1 _ ih
  have key : ∀ n, F (itF F n 0) = itF F n 0 ∨ n + 1 ≤ μ (itF F (n + 1) 0) := by
    intro n
    induction n with
    | zero =>
      by_cases c : F (itF F 0 0) = itF F 0 0
      · exact Or.inl c
      · have := h2 _ (hb 0) c
        rw [itF_s]
        exact Or.inr (by omega)
    | succ n ih =>
      rcases ih with h | h
      · left
        rw [itF_s, h, h]
      · by_cases c : F (itF F (n + 1) 0) = itF F (n + 1) 0
        · exact Or.inl c
        · have := h2 _ (hb (n + 1)) c
          rw [itF_s F (n + 1)]
          exact Or.inr (by omega)
  rcases key N with h | h
  · exact h
  · have := h3 (itF F (N + 1) 0)
    omega
theorem L_c15 {t a : Nat} {B : StB} {snd rcv : Nat → Nat} (x1 x3 : Int32) (ht : t ≤ 10) (ha : a < 8) (h0 : bi B 6 0 = Int32.ofNat t) (hs : ∀ k, k < t → snd k < 8 ∧ rcv k < 8 ∧ ba B 8 k = Int32.ofNat (snd k) ∧ ba B 9 k = Int32.ofNat (rcv k)) (v : Nat) (hv : v < 256) : ∀ (g n k : Nat), k + g = t → g < n → ok_X5_connect_L15 n 6 B (Int32.ofNat a) x1 (Int32.ofNat (rdk snd rcv a k v)) x3 (Int32.ofNat k) ∧ f_X5_connect_L15 n 6 B (Int32.ofNat a) x1 (Int32.ofNat (rdk snd rcv a k v)) x3 (Int32.ofNat k) = Int32.ofNat (rdk snd rcv a t v) := by
  intro g
  induction g with
  | zero =>
    intro n k hk hn
    obtain ⟨n, rfl⟩ : ∃ q, n = q + 1 := ⟨n - 1, by omega⟩
    have w : bi B 6 0 ≤ Int32.ofNat k := by
      rw [h0, le_ofN (by omega) (by omega)]
      omega
    refine ⟨⟨fun _ => trivial, fun h9 => absurd w h9⟩, ?_⟩
    rw [f_X5_connect_L15, if_pos w, show k = t by omega]
  | succ g ih =>
    intro n k hk hn
    obtain ⟨n, rfl⟩ : ∃ q, n = q + 1 := ⟨n - 1, by omega⟩
    have w : ¬ bi B 6 0 ≤ Int32.ofNat k := by
      rw [h0, le_ofN (by omega) (by omega)]
      omega
    obtain ⟨s1, s2, s3, s4⟩ := hs k (by omega)
    have q1 : ba B (6 + 2) (ix (Int32.ofNat k)) = Int32.ofNat (snd k) := by
      rw [ix_o (by omega)]
      exact s3
    have q2 : ba B (6 + 3) (ix (Int32.ofNat k)) = Int32.ofNat (rcv k) := by
      rw [ix_o (by omega)]
      exact s4
    have vk : vp_in (Int32.ofNat k) 10 := in_o (by omega) (by omega)
    have hw := rdk_lt (snd := snd) (a := a) (v := v) (fun k hk => (hs k hk).2.1) hv k (by omega)
    obtain ⟨r1, r2⟩ := ih n (k + 1) (by omega) (by omega)
    rw [rdk_s] at r1 r2
    have t1 := (bitT _ hw (snd k) s1).1
    have t2 := (bitT _ hw (rcv k) s2).2.1
    have we : (Int32.ofNat (snd k) = Int32.ofNat a) ↔ snd k = a := ofN_inj (by omega) (by omega)
    refine ⟨⟨fun h9 => absurd h9 w, fun _ => ⟨vk, ?_⟩⟩, ?_⟩
    · intro y hy
      rw [hy, q1, q2, t2, oad1]
      refine ⟨fun c1 => ⟨vk, ?_⟩, fun c1 => ⟨fun c2 => ⟨vk, ?_⟩, fun c2 => ?_⟩⟩
      · intro z hz
        rw [hz]
        rw [if_pos (Or.inl (we.mp c1))] at r1
        exact r1
      · intro z hz
        rw [hz]
        rw [if_pos (Or.inr (t1.mp c2))] at r1
        exact r1
      · rw [if_neg (by rw [← we, ← t1]; exact fun h => h.elim c1 c2)] at r1
        exact r1
    · rw [f_X5_connect_L15, if_neg w, nm_eq, q1, q2, t2, oad1]
      by_cases c1 : Int32.ofNat (snd k) = Int32.ofNat a
      · rw [if_pos c1, nm_eq]
        rw [if_pos (Or.inl (we.mp c1))] at r2
        exact r2
      · rw [if_neg c1]
        by_cases c2 : ((Int32.ofNat (rdk snd rcv a k v) >>> (Int32.ofNat (snd k) &&& 31)) &&& 1) = 1
        · rw [if_pos c2, nm_eq]
          rw [if_pos (Or.inr (t1.mp c2))] at r2
          exact r2
        · rw [if_neg c2]
          rw [if_neg (by rw [← we, ← t1]; exact fun h => h.elim c1 c2)] at r2
          exact r2
theorem L_c5 {t a : Nat} {B : StB} {snd rcv : Nat → Nat} (x1 : Int32) (ht : t ≤ 10) (ha : a < 8) (h0 : bi B 6 0 = Int32.ofNat t) (hs : ∀ k, k < t → snd k < 8 ∧ rcv k < 8 ∧ ba B 8 k = Int32.ofNat (snd k) ∧ ba B 9 k = Int32.ofNat (rcv k)) : ∀ (g n i v : Nat), i + g = 8 → g < n → v < 256 → ok_X5_connect_L5 n 6 B (Int32.ofNat a) x1 (Int32.ofNat v) (Int32.ofNat i) ∧ f_X5_connect_L5 n 6 B (Int32.ofNat a) x1 (Int32.ofNat v) (Int32.ofNat i) = Int32.ofNat (itF (rdk snd rcv a t) g v) := by
  have hfu : 10 < fu := by unfold fu; omega
  intro g
  induction g with
  | zero =>
    intro n i v hi hn hv
    obtain ⟨n, rfl⟩ : ∃ q, n = q + 1 := ⟨n - 1, by omega⟩
    have w : (8 : Int32) ≤ Int32.ofNat i := (le_ofN (a := 8) (by omega) (by omega)).mpr (by omega)
    refine ⟨⟨fun _ => trivial, fun h9 => absurd w h9⟩, ?_⟩
    rw [f_X5_connect_L5, if_pos w]
    rfl
  | succ g ih =>
    intro n i v hi hn hv
    obtain ⟨n, rfl⟩ : ∃ q, n = q + 1 := ⟨n - 1, by omega⟩
    have w : ¬ (8 : Int32) ≤ Int32.ofNat i := by
      rw [show (8 : Int32) = Int32.ofNat 8 from rfl, le_ofN (by omega) (by omega)]
      omega
    obtain ⟨z1, z2⟩ := L_c15 x1 (Int32.ofNat i) ht ha h0 hs v hv t fu 0 (by omega) (by omega)
    clear hfu
    have z1 : ok_X5_connect_L15 fu 6 B (Int32.ofNat a) x1 (Int32.ofNat v) (Int32.ofNat i) 0 := z1
    have z2 : f_X5_connect_L15 fu 6 B (Int32.ofNat a) x1 (Int32.ofNat v) (Int32.ofNat i) 0 = Int32.ofNat (rdk snd rcv a t v) := z2
    obtain ⟨r1, r2⟩ := ih n (i + 1) (rdk snd rcv a t v) (by omega) (by omega) (rdk_lt (fun k hk => (hs k hk).2.1) hv t (Nat.le_refl t))
    refine ⟨⟨fun h9 => absurd h9 w, fun _ => ⟨z1, ?_⟩⟩, ?_⟩
    · intro y hy
      rw [hy, z2, oad1]
      exact r1
    · rw [f_X5_connect_L5, if_neg w, nm_eq, z2, oad1]
      exact r2
/-- a way over at most d transfers -/
def Pth (snd rcv : Nat → Nat) (t : Nat) : Nat → Nat → Nat → Prop
  | 0, _, _ => False
  | d + 1, f, g => ∃ k, k < t ∧ snd k = f ∧ (rcv k = g ∨ Pth snd rcv t d (rcv k) g)
theorem Pth_mo {snd rcv : Nat → Nat} {t : Nat} : ∀ {d f g : Nat}, Pth snd rcv t d f g → Pth snd rcv t (d + 1) f g
  | 0, _, _, h => h.elim
  | d + 1, f, g, ⟨k, k1, k2, k3⟩ => ⟨k, k1, k2, k3.imp id (fun h => Pth_mo h)⟩
theorem Pth_le {snd rcv : Nat → Nat} {t d f g : Nat} (h : Pth snd rcv t d f g) : ∀ m, Pth snd rcv t (d + m) f g
  | 0 => h
  | m + 1 => Pth_mo (Pth_le h m)
/-- the last step first -/
theorem Pth_r {snd rcv : Nat → Nat} {t : Nat} : ∀ {d f g : Nat}, Pth snd rcv t (d + 1) f g ↔ ∃ k, k < t ∧ rcv k = g ∧ (snd k = f ∨ Pth snd rcv t d f (snd k))
  | 0, f, g => by
    constructor
    · rintro ⟨k, k1, k2, k3 | k3⟩
      · exact ⟨k, k1, k3, Or.inl k2⟩
      · exact k3.elim
    · rintro ⟨k, k1, k2, k3 | k3⟩
      · exact ⟨k, k1, k3, Or.inl k2⟩
      · exact k3.elim
  | d + 1, f, g => by
    constructor
    · rintro ⟨k, k1, k2, k3 | k3⟩
      · exact ⟨k, k1, k3, Or.inl k2⟩
      · obtain ⟨q, q1, q2, q3⟩ := Pth_r.mp k3
        refine ⟨q, q1, q2, Or.inr ⟨k, k1, k2, ?_⟩⟩
        rcases q3 with q3 | q3
        · exact Or.inl q3.symm
        · exact Or.inr q3
    · rintro ⟨k, k1, k2, k3 | k3⟩
      · exact ⟨k, k1, k3, Or.inl k2⟩
      · obtain ⟨q, q1, q2, q3⟩ := k3
        refine ⟨q, q1, q2, Or.inr (Pth_r.mpr ⟨k, k1, k2, ?_⟩)⟩
        rcases q3 with q3 | q3
        · exact Or.inl q3.symm
        · exact Or.inr q3
theorem Pth_cap {snd rcv : Nat → Nat} {t a : Nat} (d : Nat) (g : Nat) (h : Pth snd rcv t d a g) : Pth snd rcv t t a g := by
  classical
  have key : ∀ n, (∃ d', d' < n ∧ ∀ g, Pth snd rcv t (d' + 1) a g → Pth snd rcv t d' a g) ∨ n ≤ ct (fun k => decide (Pth snd rcv t n a (rcv k))) t := by
    intro n
    induction n with
    | zero => exact Or.inr (Nat.zero_le _)
    | succ n ih =>
      rcases ih with ⟨d', d1, d2⟩ | ih
      · exact Or.inl ⟨d', by omega, d2⟩
      · by_cases c : ∀ g, Pth snd rcv t (n + 1) a g → Pth snd rcv t n a g
        · exact Or.inl ⟨n, by omega, c⟩
        · right
          have ⟨g, g1, g2⟩ : ∃ g, Pth snd rcv t (n + 1) a g ∧ ¬ Pth snd rcv t n a g := by
            refine Classical.byContradiction (fun h9 => c (fun g hg => Classical.byContradiction (fun h8 => h9 ⟨g, hg, h8⟩)))
          obtain ⟨k, k1, k2, -⟩ := Pth_r.mp g1
          have := (ct_mo (fun k => decide (Pth snd rcv t n a (rcv k))) (fun k => decide (Pth snd rcv t (n + 1) a (rcv k))) t (fun i _ hi => decide_eq_true (Pth_mo (of_decide_eq_true hi)))).2 ⟨k, k1, decide_eq_true (by rw [k2]; exact g1), fun h9 => g2 (by have := of_decide_eq_true h9; rw [k2] at this; exact this)⟩
          omega
  have ⟨d', d1, d2⟩ : ∃ d', d' < t + 1 ∧ ∀ g, Pth snd rcv t (d' + 1) a g → Pth snd rcv t d' a g := by
    rcases key (t + 1) with h | h
    · exact h
    · have := ct_le (fun k => decide (Pth snd rcv t (t + 1) a (rcv k))) t
      omega
  have st : ∀ m g, Pth snd rcv t (d' + m) a g → Pth snd rcv t d' a g := by
    intro m
    induction m with
    | zero => exact fun g hg => hg
    | succ m ih =>
      intro g hg
      obtain ⟨k, k1, k2, k3⟩ := Pth_r.mp (show Pth snd rcv t (d' + m + 1) a g from hg)
      exact d2 g (Pth_r.mpr ⟨k, k1, k2, k3.imp id (fun h => ih _ h)⟩)
  have h1 := st d g (by
    have := Pth_le h d'
    rwa [Nat.add_comm d d'] at this)
  have := Pth_le h1 (t - d')
  rwa [show d' + (t - d') = t by omega] at this
theorem rdk_fix {snd rcv : Nat → Nat} {a t : Nat} (hr : ∀ k, k < t → rcv k < 8) : rdk snd rcv a t (itF (rdk snd rcv a t) 8 0) = itF (rdk snd rcv a t) 8 0 := by
  have hb : ∀ v, v < 256 → rdk snd rcv a t v < 256 := fun v hv => rdk_lt hr hv t (Nat.le_refl t)
  refine itF_fix (μ := fun v => ct (fun j => Nat.testBit v j) 8) hb (fun v hv hne => ?_) (fun v => ct_le _ 8)
  obtain ⟨j, hj, j1, j2⟩ := rdk_new hr hv hne
  exact (ct_mo (fun j => Nat.testBit v j) (fun j => Nat.testBit (rdk snd rcv a t v) j) 8 (fun i _ h => rdk_up snd rcv a v i h t)).2 ⟨j, hj, j1, j2⟩
theorem rdk_snd {snd rcv : Nat → Nat} {a t v : Nat} (hv : ∀ g, Nat.testBit v g = true → ∃ d, Pth snd rcv t d a g) : ∀ k, k ≤ t → ∀ g, Nat.testBit (rdk snd rcv a k v) g = true → ∃ d, Pth snd rcv t d a g := by
  intro k
  induction k with
  | zero => exact fun _ => hv
  | succ k ih =>
    intro hk g hg
    rw [rdk_s] at hg
    have ih := ih (by omega)
    by_cases c : snd k = a ∨ Nat.testBit (rdk snd rcv a k v) (snd k) = true
    · rw [if_pos c, bitO] at hg
      rcases hg with hg | hg
      · exact ih g hg
      · rcases c with c | c
        · exact ⟨1, k, by omega, c, Or.inl hg⟩
        · obtain ⟨d, hd⟩ := ih _ c
          exact ⟨d + 1, Pth_r.mpr ⟨k, by omega, hg, Or.inr hd⟩⟩
    · rw [if_neg c] at hg
      exact ih g hg
theorem itF_snd {snd rcv : Nat → Nat} {a t : Nat} : ∀ n v, (∀ g, Nat.testBit v g = true → ∃ d, Pth snd rcv t d a g) → ∀ g, Nat.testBit (itF (rdk snd rcv a t) n v) g = true → ∃ d, Pth snd rcv t d a g
  | 0, _, h => h
  | n + 1, v, h => itF_snd n _ (rdk_snd h t (Nat.le_refl t))
theorem rdk_mo {snd rcv : Nat → Nat} {a v j : Nat} {k : Nat} : ∀ m, Nat.testBit (rdk snd rcv a k v) j = true → Nat.testBit (rdk snd rcv a (k + m) v) j = true
  | 0, h => h
  | m + 1, h => by
    have := rdk_mo m h
    show Nat.testBit (rdk snd rcv a (k + m + 1) v) j = true
    rw [rdk_s]
    split
    · rw [bitO]
      exact Or.inl this
    · exact this
theorem fix_in {snd rcv : Nat → Nat} {a t w : Nat} (hw : rdk snd rcv a t w = w) {k : Nat} (hk : k < t) (h : snd k = a ∨ Nat.testBit w (snd k) = true) : Nat.testBit w (rcv k) = true := by
  have h1 : Nat.testBit (rdk snd rcv a (k + 1) w) (rcv k) = true := by
    rw [rdk_s, if_pos (h.imp id (fun h => rdk_up snd rcv a w _ h k)), bitO]
    exact Or.inr rfl
  have := rdk_mo (t - (k + 1)) h1
  rw [show k + 1 + (t - (k + 1)) = t by omega, hw] at this
  exact this
theorem fix_all {snd rcv : Nat → Nat} {a t w : Nat} (hw : rdk snd rcv a t w = w) : ∀ d f g, Pth snd rcv t d f g → (f = a ∨ Nat.testBit w f = true) → Nat.testBit w g = true
  | 0, _, _, h, _ => h.elim
  | d + 1, f, g, ⟨k, k1, k2, k3⟩, hf => by
    have h1 := fix_in hw k1 (by rw [k2]; exact hf)
    rcases k3 with k3 | k3
    · rw [← k3]
      exact h1
    · exact fix_all hw d _ _ k3 (Or.inr h1)
theorem con_iff {snd rcv : Nat → Nat} {a t g : Nat} (hr : ∀ k, k < t → rcv k < 8) (ht : t ≤ 4) : Nat.testBit (itF (rdk snd rcv a t) 8 0) g = true ↔ Pth snd rcv t 4 a g := by
  constructor
  · intro h
    obtain ⟨d, hd⟩ := itF_snd 8 0 (fun g h9 => by rw [Nat.zero_testBit] at h9; exact absurd h9 (by decide)) g h
    have := Pth_le (Pth_cap d g hd) (4 - t)
    rwa [show t + (4 - t) = 4 by omega] at this
  · exact fun h => fix_all (rdk_fix hr) 4 a g h (Or.inl rfl)
/-- says whether -/
def Zl (P : Prop) (v : Int32) : Prop := (v = 1 ∧ P) ∨ (v = 0 ∧ ¬ P)
theorem con_n {e n t a b : Nat} {B : StB} {R : Nat → Int32} (hT : Ti 0 n 0 0 t B 0 R) (hR : RB e (60 * e) n t 0 0 R) (ha : a < n) (hb : b < n) : ok_X6_leadsTo_n B (Int32.ofNat a) (Int32.ofNat b) ∧ Zl (Nat.testBit (itF (rdk (sI R) (sJ R) a t) 8 0) b = true) (f_X6_leadsTo_n B (Int32.ofNat a) (Int32.ofNat b)) := by
  have ht : t ≤ 10 := hR.2.1.1
  have hn : n ≤ 8 := hR.1.1
  have hs : ∀ k, k < t → sI R k < 8 ∧ sJ R k < 8 ∧ R (45 + 5 * k) = Int32.ofNat (sI R k) ∧ R (46 + 5 * k) = Int32.ofNat (sJ R k) := by
    intro k hk
    obtain ⟨⟨i, hi, e1⟩, ⟨j, hj, e2⟩, _⟩ := hR.2.1.2.2.1 k hk
    rw [sI_eq e1 (by omega), sJ_eq e2 (by omega)]
    exact ⟨by omega, by omega, e1, e2⟩
  have hfu : 12 < fu := by unfold fu; omega
  obtain ⟨c1, c2⟩ := L_c5 (B := B) (snd := sI R) (rcv := sJ R) (Int32.ofNat b) ht (a := a) (by omega) (Ti_c hT).1 (fun k hk => ⟨(hs k hk).1, (hs k hk).2.1, (Ti_q hT hk).2.1.trans (hs k hk).2.2.1, (Ti_q hT hk).2.2.1.trans (hs k hk).2.2.2⟩) 8 fu 0 0 (by omega) (by omega) (by omega)
  clear hfu
  have hW : itF (rdk (sI R) (sJ R) a t) 8 0 < 256 := by
    have hb : ∀ m v, v < 256 → itF (rdk (sI R) (sJ R) a t) m v < 256 := by
      intro m
      induction m with
      | zero => exact fun v hv => hv
      | succ m ih => exact fun v hv => ih _ (rdk_lt (fun k hk => (hs k hk).2.1) hv t (Nat.le_refl t))
    exact hb 8 0 (by omega)
  have c1 : ok_X5_connect_L5 fu 6 B (Int32.ofNat a) (Int32.ofNat b) 0 0 := c1
  have c2 : f_X5_connect_L5 fu 6 B (Int32.ofNat a) (Int32.ofNat b) 0 0 = Int32.ofNat (itF (rdk (sI R) (sJ R) a t) 8 0) := c2
  generalize itF (rdk (sI R) (sJ R) a t) 8 0 = w at hW c2
  have bt := (bitT w hW b (by omega)).1
  have ec : f_X6_leadsTo_n B (Int32.ofNat a) (Int32.ofNat b) = if ((Int32.ofNat w >>> (Int32.ofNat b &&& 31)) &&& 1) = 1 then 1 else 0 := by
    unfold f_X6_leadsTo_n
    rw [nm_eq]
    unfold f_X5_connect
    rw [nm_eq, c2]
  have ec2 : f_X5_connect 6 B (Int32.ofNat a) (Int32.ofNat b) = if ((Int32.ofNat w >>> (Int32.ofNat b &&& 31)) &&& 1) = 1 then 1 else 0 := ec
  refine ⟨⟨reqAn hT ha, reqAn hT hb, c1, ?_⟩, ?_⟩
  · intro r hr
    rw [hr, ec2]
    refine nar01 ?_
    split
    · exact Or.inr rfl
    · exact Or.inl rfl
  · rw [ec]
    by_cases c : ((Int32.ofNat w >>> (Int32.ofNat b &&& 31)) &&& 1) = 1
    · rw [if_pos c]
      exact Or.inl ⟨rfl, bt.mp c⟩
    · rw [if_neg c]
      exact Or.inr ⟨rfl, fun h => c (bt.mpr h)⟩
theorem lead_1 {e n t g : Nat} {B : StB} {R : Nat → Int32} (hT : Ti 0 n 0 0 t B 0 R) (hR : RB e (60 * e) n t 0 0 R) (hg : g < n) : ∀ (f : Nat), f < n → ∀ (q nf k : Nat), k + q = t → q < nf → Gz (Zl (∃ m, k ≤ m ∧ m < t ∧ sI R (tsl t R m) = f ∧ (sJ R (tsl t R m) = g ∨ Pth (sI R) (sJ R) t 0 (sJ R (tsl t R m)) g))) (ok_L_leads_1_L3 nf B (Int32.ofNat f) (Int32.ofNat g) 1 (Int32.ofNat k)) (f_L_leads_1_L3 nf B (Int32.ofNat f) (Int32.ofNat g) 1 (Int32.ofNat k)) := by
  have hu := bT_uq hR.2.1
  have ht : t ≤ 10 := hR.2.1.1
  have hn : n ≤ 8 := hR.1.1
  have hc := tcn hT
  intro f hf q
  induction q with
  | zero =>
    intro nf k hk hnf
    obtain ⟨nf, rfl⟩ : ∃ q, nf = q + 1 := ⟨nf - 1, by omega⟩
    have c : Int32.ofNat t ≤ Int32.ofNat k := by
      rw [le_ofN (by omega) (by omega)]
      omega
    unfold f_L_leads_1_L3 ok_L_leads_1_L3
    exact G_as hc (G_pos c ⟨trivial, Or.inr ⟨rfl, fun ⟨m, m1, m2, _⟩ => by omega⟩⟩)
  | succ q ih =>
    intro nf k hk hnf
    obtain ⟨nf, rfl⟩ : ∃ q, nf = q + 1 := ⟨nf - 1, by omega⟩
    have c : ¬ Int32.ofNat t ≤ Int32.ofNat k := by
      rw [le_ofN (by omega) (by omega)]
      omega
    obtain ⟨o1, f1, s1⟩ := tAt hT (m := k) (by omega)
    obtain ⟨-, ⟨d1, e1⟩, ⟨d2, e2⟩, -⟩ := slot_n hT hu s1
    obtain ⟨⟨i, hi, a1⟩, ⟨j, hj, a2⟩, -⟩ := hR.2.1.2.2.1 _ s1
    have hI := sI_eq a1 (by omega)
    have hJ := sJ_eq a2 (by omega)
    obtain ⟨r1, r2⟩ := ih nf (k + 1) (by omega) (by omega)
    rw [← oad1] at r1 r2
    have up : (∃ m, k + 1 ≤ m ∧ m < t ∧ sI R (tsl t R m) = f ∧ (sJ R (tsl t R m) = g ∨ Pth (sI R) (sJ R) t 0 (sJ R (tsl t R m)) g)) → (∃ m, k ≤ m ∧ m < t ∧ sI R (tsl t R m) = f ∧ (sJ R (tsl t R m) = g ∨ Pth (sI R) (sJ R) t 0 (sJ R (tsl t R m)) g)) := fun ⟨m, m1, m2⟩ => ⟨m, by omega, m2⟩
    have no : ¬ (i = f ∧ (j = g ∨ Pth (sI R) (sJ R) t 0 j g)) → Gz (Zl (∃ m, k ≤ m ∧ m < t ∧ sI R (tsl t R m) = f ∧ (sJ R (tsl t R m) = g ∨ Pth (sI R) (sJ R) t 0 (sJ R (tsl t R m)) g))) (ok_L_leads_1_L3 nf B (Int32.ofNat f) (Int32.ofNat g) 1 (Int32.ofNat k + 1)) (f_L_leads_1_L3 nf B (Int32.ofNat f) (Int32.ofNat g) 1 (Int32.ofNat k + 1)) := by
      intro h9
      refine ⟨r1, ?_⟩
      rcases r2 with ⟨r2, r3⟩ | ⟨r2, r3⟩
      · exact Or.inl ⟨r2, up r3⟩
      · refine Or.inr ⟨r2, fun ⟨m, m1, m2, m3⟩ => ?_⟩
        by_cases hm : m = k
        · rw [hm, hI, hJ] at m3
          exact h9 m3
        · exact r3 ⟨m, by omega, m2, m3⟩
    have wi : (Int32.ofNat i = Int32.ofNat f) ↔ i = f := ofN_inj (by omega) (by omega)
    have wj : (Int32.ofNat j = Int32.ofNat g) ↔ j = g := ofN_inj (by omega) (by omega)
    unfold f_L_leads_1_L3 ok_L_leads_1_L3
    refine G_as hc (G_neg c (G_ka o1 f1 (G_ka d1 (e1.trans a1) (G_ite (fun h1 => ?_) (fun h1 => no (fun h9 => h1 (wi.mpr h9.1)))))))
    refine G_ka d2 (e2.trans a2) (G_ite (fun h2 => ?_) (fun h2 => ?_))
    · exact ⟨trivial, Or.inl ⟨rfl, k, Nat.le_refl k, by omega, by rw [hI]; exact wi.mp h1, Or.inl (by rw [hJ]; exact wj.mp h2)⟩⟩
    · exact G_pos (by decide) (no (fun h9 => h9.2.elim (fun h => h2 (wj.mpr h)) (fun h => h)))
theorem lead_1T {e n t g : Nat} {B : StB} {R : Nat → Int32} (hT : Ti 0 n 0 0 t B 0 R) (hR : RB e (60 * e) n t 0 0 R) (hg : g < n) (f : Nat) (hf : f < n) : ok_L_leads_1 B (Int32.ofNat f) (Int32.ofNat g) 1 ∧ Zl (Pth (sI R) (sJ R) t 1 f g) (f_L_leads_1 B (Int32.ofNat f) (Int32.ofNat g) 1) := by
  have ht : t ≤ 10 := hR.2.1.1
  obtain ⟨r1, r2⟩ := lead_1 hT hR hg f hf t 20 0 (by omega) (by omega)
  have h : (∃ m, 0 ≤ m ∧ m < t ∧ sI R (tsl t R m) = f ∧ (sJ R (tsl t R m) = g ∨ Pth (sI R) (sJ R) t 0 (sJ R (tsl t R m)) g)) ↔ Pth (sI R) (sJ R) t 1 f g := by
    constructor
    · rintro ⟨m, -, m2, m3⟩
      exact ⟨tsl t R m, (ps_ok m2).1, m3⟩
    · rintro ⟨i, i1, i2⟩
      refine ⟨rk (fun j => -(R (48 + 5 * j)).toInt) i t, Nat.zero_le _, (rk_le _ i t).2 i1, ?_⟩
      have e : tsl t R (rk (fun j => -(R (48 + 5 * j)).toInt) i t) = i := ps_rk i1
      rw [e]
      exact i2
  refine ⟨r1, ?_⟩
  rcases r2 with ⟨r2, r3⟩ | ⟨r2, r3⟩
  · exact Or.inl ⟨r2, h.mp r3⟩
  · exact Or.inr ⟨r2, fun h9 => r3 (h.mpr h9)⟩
theorem lead_2 {e n t g : Nat} {B : StB} {R : Nat → Int32} (hT : Ti 0 n 0 0 t B 0 R) (hR : RB e (60 * e) n t 0 0 R) (hg : g < n) : ∀ (f : Nat), f < n → ∀ (q nf k : Nat), k + q = t → q < nf → Gz (Zl (∃ m, k ≤ m ∧ m < t ∧ sI R (tsl t R m) = f ∧ (sJ R (tsl t R m) = g ∨ Pth (sI R) (sJ R) t 1 (sJ R (tsl t R m)) g))) (ok_L_leads_2_L3 nf B (Int32.ofNat f) (Int32.ofNat g) 2 (Int32.ofNat k)) (f_L_leads_2_L3 nf B (Int32.ofNat f) (Int32.ofNat g) 2 (Int32.ofNat k)) := by
  have hu := bT_uq hR.2.1
  have ht : t ≤ 10 := hR.2.1.1
  have hn : n ≤ 8 := hR.1.1
  have hc := tcn hT
  intro f hf q
  induction q with
  | zero =>
    intro nf k hk hnf
    obtain ⟨nf, rfl⟩ : ∃ q, nf = q + 1 := ⟨nf - 1, by omega⟩
    have c : Int32.ofNat t ≤ Int32.ofNat k := by
      rw [le_ofN (by omega) (by omega)]
      omega
    unfold f_L_leads_2_L3 ok_L_leads_2_L3
    exact G_as hc (G_pos c ⟨trivial, Or.inr ⟨rfl, fun ⟨m, m1, m2, _⟩ => by omega⟩⟩)
  | succ q ih =>
    intro nf k hk hnf
    obtain ⟨nf, rfl⟩ : ∃ q, nf = q + 1 := ⟨nf - 1, by omega⟩
    have c : ¬ Int32.ofNat t ≤ Int32.ofNat k := by
      rw [le_ofN (by omega) (by omega)]
      omega
    obtain ⟨o1, f1, s1⟩ := tAt hT (m := k) (by omega)
    obtain ⟨-, ⟨d1, e1⟩, ⟨d2, e2⟩, -⟩ := slot_n hT hu s1
    obtain ⟨⟨i, hi, a1⟩, ⟨j, hj, a2⟩, -⟩ := hR.2.1.2.2.1 _ s1
    have hI := sI_eq a1 (by omega)
    have hJ := sJ_eq a2 (by omega)
    obtain ⟨r1, r2⟩ := ih nf (k + 1) (by omega) (by omega)
    rw [← oad1] at r1 r2
    have up : (∃ m, k + 1 ≤ m ∧ m < t ∧ sI R (tsl t R m) = f ∧ (sJ R (tsl t R m) = g ∨ Pth (sI R) (sJ R) t 1 (sJ R (tsl t R m)) g)) → (∃ m, k ≤ m ∧ m < t ∧ sI R (tsl t R m) = f ∧ (sJ R (tsl t R m) = g ∨ Pth (sI R) (sJ R) t 1 (sJ R (tsl t R m)) g)) := fun ⟨m, m1, m2⟩ => ⟨m, by omega, m2⟩
    have no : ¬ (i = f ∧ (j = g ∨ Pth (sI R) (sJ R) t 1 j g)) → Gz (Zl (∃ m, k ≤ m ∧ m < t ∧ sI R (tsl t R m) = f ∧ (sJ R (tsl t R m) = g ∨ Pth (sI R) (sJ R) t 1 (sJ R (tsl t R m)) g))) (ok_L_leads_2_L3 nf B (Int32.ofNat f) (Int32.ofNat g) 2 (Int32.ofNat k + 1)) (f_L_leads_2_L3 nf B (Int32.ofNat f) (Int32.ofNat g) 2 (Int32.ofNat k + 1)) := by
      intro h9
      refine ⟨r1, ?_⟩
      rcases r2 with ⟨r2, r3⟩ | ⟨r2, r3⟩
      · exact Or.inl ⟨r2, up r3⟩
      · refine Or.inr ⟨r2, fun ⟨m, m1, m2, m3⟩ => ?_⟩
        by_cases hm : m = k
        · rw [hm, hI, hJ] at m3
          exact h9 m3
        · exact r3 ⟨m, by omega, m2, m3⟩
    have wi : (Int32.ofNat i = Int32.ofNat f) ↔ i = f := ofN_inj (by omega) (by omega)
    have wj : (Int32.ofNat j = Int32.ofNat g) ↔ j = g := ofN_inj (by omega) (by omega)
    unfold f_L_leads_2_L3 ok_L_leads_2_L3
    refine G_as hc (G_neg c (G_ka o1 f1 (G_ka d1 (e1.trans a1) (G_ite (fun h1 => ?_) (fun h1 => no (fun h9 => h1 (wi.mpr h9.1)))))))
    refine G_ka d2 (e2.trans a2) (G_ite (fun h2 => ?_) (fun h2 => ?_))
    · exact ⟨trivial, Or.inl ⟨rfl, k, Nat.le_refl k, by omega, by rw [hI]; exact wi.mp h1, Or.inl (by rw [hJ]; exact wj.mp h2)⟩⟩
    · refine G_neg (by decide) (G_ka d2 (e2.trans a2) ?_)
      obtain ⟨l1, l2⟩ := lead_1T hT hR hg j hj
      have l1 : ok_L_leads_1 B (Int32.ofNat j) (Int32.ofNat g) (2 - 1) := l1
      have l2 : Zl (Pth (sI R) (sJ R) t 1 j g) (f_L_leads_1 B (Int32.ofNat j) (Int32.ofNat g) (2 - 1)) := l2
      rcases l2 with ⟨l2, l3⟩ | ⟨l2, l3⟩
      · refine G_ka l1 l2 (G_neg (by decide) ⟨trivial, Or.inl ⟨rfl, k, Nat.le_refl k, by omega, by rw [hI]; exact wi.mp h1, Or.inr (by rw [hJ]; exact l3)⟩⟩)
      · exact G_ka l1 l2 (G_pos rfl (no (fun h9 => h9.2.elim (fun h => h2 (wj.mpr h)) l3)))
theorem lead_2T {e n t g : Nat} {B : StB} {R : Nat → Int32} (hT : Ti 0 n 0 0 t B 0 R) (hR : RB e (60 * e) n t 0 0 R) (hg : g < n) (f : Nat) (hf : f < n) : ok_L_leads_2 B (Int32.ofNat f) (Int32.ofNat g) 2 ∧ Zl (Pth (sI R) (sJ R) t 2 f g) (f_L_leads_2 B (Int32.ofNat f) (Int32.ofNat g) 2) := by
  have ht : t ≤ 10 := hR.2.1.1
  obtain ⟨r1, r2⟩ := lead_2 hT hR hg f hf t 20 0 (by omega) (by omega)
  have h : (∃ m, 0 ≤ m ∧ m < t ∧ sI R (tsl t R m) = f ∧ (sJ R (tsl t R m) = g ∨ Pth (sI R) (sJ R) t 1 (sJ R (tsl t R m)) g)) ↔ Pth (sI R) (sJ R) t 2 f g := by
    constructor
    · rintro ⟨m, -, m2, m3⟩
      exact ⟨tsl t R m, (ps_ok m2).1, m3⟩
    · rintro ⟨i, i1, i2⟩
      refine ⟨rk (fun j => -(R (48 + 5 * j)).toInt) i t, Nat.zero_le _, (rk_le _ i t).2 i1, ?_⟩
      have e : tsl t R (rk (fun j => -(R (48 + 5 * j)).toInt) i t) = i := ps_rk i1
      rw [e]
      exact i2
  refine ⟨r1, ?_⟩
  rcases r2 with ⟨r2, r3⟩ | ⟨r2, r3⟩
  · exact Or.inl ⟨r2, h.mp r3⟩
  · exact Or.inr ⟨r2, fun h9 => r3 (h.mpr h9)⟩
theorem lead_3 {e n t g : Nat} {B : StB} {R : Nat → Int32} (hT : Ti 0 n 0 0 t B 0 R) (hR : RB e (60 * e) n t 0 0 R) (hg : g < n) : ∀ (f : Nat), f < n → ∀ (q nf k : Nat), k + q = t → q < nf → Gz (Zl (∃ m, k ≤ m ∧ m < t ∧ sI R (tsl t R m) = f ∧ (sJ R (tsl t R m) = g ∨ Pth (sI R) (sJ R) t 2 (sJ R (tsl t R m)) g))) (ok_L_leads_3_L3 nf B (Int32.ofNat f) (Int32.ofNat g) 3 (Int32.ofNat k)) (f_L_leads_3_L3 nf B (Int32.ofNat f) (Int32.ofNat g) 3 (Int32.ofNat k)) := by
  have hu := bT_uq hR.2.1
  have ht : t ≤ 10 := hR.2.1.1
  have hn : n ≤ 8 := hR.1.1
  have hc := tcn hT
  intro f hf q
  induction q with
  | zero =>
    intro nf k hk hnf
    obtain ⟨nf, rfl⟩ : ∃ q, nf = q + 1 := ⟨nf - 1, by omega⟩
    have c : Int32.ofNat t ≤ Int32.ofNat k := by
      rw [le_ofN (by omega) (by omega)]
      omega
    unfold f_L_leads_3_L3 ok_L_leads_3_L3
    exact G_as hc (G_pos c ⟨trivial, Or.inr ⟨rfl, fun ⟨m, m1, m2, _⟩ => by omega⟩⟩)
  | succ q ih =>
    intro nf k hk hnf
    obtain ⟨nf, rfl⟩ : ∃ q, nf = q + 1 := ⟨nf - 1, by omega⟩
    have c : ¬ Int32.ofNat t ≤ Int32.ofNat k := by
      rw [le_ofN (by omega) (by omega)]
      omega
    obtain ⟨o1, f1, s1⟩ := tAt hT (m := k) (by omega)
    obtain ⟨-, ⟨d1, e1⟩, ⟨d2, e2⟩, -⟩ := slot_n hT hu s1
    obtain ⟨⟨i, hi, a1⟩, ⟨j, hj, a2⟩, -⟩ := hR.2.1.2.2.1 _ s1
    have hI := sI_eq a1 (by omega)
    have hJ := sJ_eq a2 (by omega)
    obtain ⟨r1, r2⟩ := ih nf (k + 1) (by omega) (by omega)
    rw [← oad1] at r1 r2
    have up : (∃ m, k + 1 ≤ m ∧ m < t ∧ sI R (tsl t R m) = f ∧ (sJ R (tsl t R m) = g ∨ Pth (sI R) (sJ R) t 2 (sJ R (tsl t R m)) g)) → (∃ m, k ≤ m ∧ m < t ∧ sI R (tsl t R m) = f ∧ (sJ R (tsl t R m) = g ∨ Pth (sI R) (sJ R) t 2 (sJ R (tsl t R m)) g)) := fun ⟨m, m1, m2⟩ => ⟨m, by omega, m2⟩
    have no : ¬ (i = f ∧ (j = g ∨ Pth (sI R) (sJ R) t 2 j g)) → Gz (Zl (∃ m, k ≤ m ∧ m < t ∧ sI R (tsl t R m) = f ∧ (sJ R (tsl t R m) = g ∨ Pth (sI R) (sJ R) t 2 (sJ R (tsl t R m)) g))) (ok_L_leads_3_L3 nf B (Int32.ofNat f) (Int32.ofNat g) 3 (Int32.ofNat k + 1)) (f_L_leads_3_L3 nf B (Int32.ofNat f) (Int32.ofNat g) 3 (Int32.ofNat k + 1)) := by
      intro h9
      refine ⟨r1, ?_⟩
      rcases r2 with ⟨r2, r3⟩ | ⟨r2, r3⟩
      · exact Or.inl ⟨r2, up r3⟩
      · refine Or.inr ⟨r2, fun ⟨m, m1, m2, m3⟩ => ?_⟩
        by_cases hm : m = k
        · rw [hm, hI, hJ] at m3
          exact h9 m3
        · exact r3 ⟨m, by omega, m2, m3⟩
    have wi : (Int32.ofNat i = Int32.ofNat f) ↔ i = f := ofN_inj (by omega) (by omega)
    have wj : (Int32.ofNat j = Int32.ofNat g) ↔ j = g := ofN_inj (by omega) (by omega)
    unfold f_L_leads_3_L3 ok_L_leads_3_L3
    refine G_as hc (G_neg c (G_ka o1 f1 (G_ka d1 (e1.trans a1) (G_ite (fun h1 => ?_) (fun h1 => no (fun h9 => h1 (wi.mpr h9.1)))))))
    refine G_ka d2 (e2.trans a2) (G_ite (fun h2 => ?_) (fun h2 => ?_))
    · exact ⟨trivial, Or.inl ⟨rfl, k, Nat.le_refl k, by omega, by rw [hI]; exact wi.mp h1, Or.inl (by rw [hJ]; exact wj.mp h2)⟩⟩
    · refine G_neg (by decide) (G_ka d2 (e2.trans a2) ?_)
      obtain ⟨l1, l2⟩ := lead_2T hT hR hg j hj
      have l1 : ok_L_leads_2 B (Int32.ofNat j) (Int32.ofNat g) (3 - 1) := l1
      have l2 : Zl (Pth (sI R) (sJ R) t 2 j g) (f_L_leads_2 B (Int32.ofNat j) (Int32.ofNat g) (3 - 1)) := l2
      rcases l2 with ⟨l2, l3⟩ | ⟨l2, l3⟩
      · refine G_ka l1 l2 (G_neg (by decide) ⟨trivial, Or.inl ⟨rfl, k, Nat.le_refl k, by omega, by rw [hI]; exact wi.mp h1, Or.inr (by rw [hJ]; exact l3)⟩⟩)
      · exact G_ka l1 l2 (G_pos rfl (no (fun h9 => h9.2.elim (fun h => h2 (wj.mpr h)) l3)))
theorem lead_3T {e n t g : Nat} {B : StB} {R : Nat → Int32} (hT : Ti 0 n 0 0 t B 0 R) (hR : RB e (60 * e) n t 0 0 R) (hg : g < n) (f : Nat) (hf : f < n) : ok_L_leads_3 B (Int32.ofNat f) (Int32.ofNat g) 3 ∧ Zl (Pth (sI R) (sJ R) t 3 f g) (f_L_leads_3 B (Int32.ofNat f) (Int32.ofNat g) 3) := by
  have ht : t ≤ 10 := hR.2.1.1
  obtain ⟨r1, r2⟩ := lead_3 hT hR hg f hf t 20 0 (by omega) (by omega)
  have h : (∃ m, 0 ≤ m ∧ m < t ∧ sI R (tsl t R m) = f ∧ (sJ R (tsl t R m) = g ∨ Pth (sI R) (sJ R) t 2 (sJ R (tsl t R m)) g)) ↔ Pth (sI R) (sJ R) t 3 f g := by
    constructor
    · rintro ⟨m, -, m2, m3⟩
      exact ⟨tsl t R m, (ps_ok m2).1, m3⟩
    · rintro ⟨i, i1, i2⟩
      refine ⟨rk (fun j => -(R (48 + 5 * j)).toInt) i t, Nat.zero_le _, (rk_le _ i t).2 i1, ?_⟩
      have e : tsl t R (rk (fun j => -(R (48 + 5 * j)).toInt) i t) = i := ps_rk i1
      rw [e]
      exact i2
  refine ⟨r1, ?_⟩
  rcases r2 with ⟨r2, r3⟩ | ⟨r2, r3⟩
  · exact Or.inl ⟨r2, h.mp r3⟩
  · exact Or.inr ⟨r2, fun h9 => r3 (h.mpr h9)⟩
theorem lead_4 {e n t g : Nat} {B : StB} {R : Nat → Int32} (hT : Ti 0 n 0 0 t B 0 R) (hR : RB e (60 * e) n t 0 0 R) (hg : g < n) : ∀ (f : Nat), f < n → ∀ (q nf k : Nat), k + q = t → q < nf → Gz (Zl (∃ m, k ≤ m ∧ m < t ∧ sI R (tsl t R m) = f ∧ (sJ R (tsl t R m) = g ∨ Pth (sI R) (sJ R) t 3 (sJ R (tsl t R m)) g))) (ok_L_leads_4_L3 nf B (Int32.ofNat f) (Int32.ofNat g) 4 (Int32.ofNat k)) (f_L_leads_4_L3 nf B (Int32.ofNat f) (Int32.ofNat g) 4 (Int32.ofNat k)) := by
  have hu := bT_uq hR.2.1
  have ht : t ≤ 10 := hR.2.1.1
  have hn : n ≤ 8 := hR.1.1
  have hc := tcn hT
  intro f hf q
  induction q with
  | zero =>
    intro nf k hk hnf
    obtain ⟨nf, rfl⟩ : ∃ q, nf = q + 1 := ⟨nf - 1, by omega⟩
    have c : Int32.ofNat t ≤ Int32.ofNat k := by
      rw [le_ofN (by omega) (by omega)]
      omega
    unfold f_L_leads_4_L3 ok_L_leads_4_L3
    exact G_as hc (G_pos c ⟨trivial, Or.inr ⟨rfl, fun ⟨m, m1, m2, _⟩ => by omega⟩⟩)
  | succ q ih =>
    intro nf k hk hnf
    obtain ⟨nf, rfl⟩ : ∃ q, nf = q + 1 := ⟨nf - 1, by omega⟩
    have c : ¬ Int32.ofNat t ≤ Int32.ofNat k := by
      rw [le_ofN (by omega) (by omega)]
      omega
    obtain ⟨o1, f1, s1⟩ := tAt hT (m := k) (by omega)
    obtain ⟨-, ⟨d1, e1⟩, ⟨d2, e2⟩, -⟩ := slot_n hT hu s1
    obtain ⟨⟨i, hi, a1⟩, ⟨j, hj, a2⟩, -⟩ := hR.2.1.2.2.1 _ s1
    have hI := sI_eq a1 (by omega)
    have hJ := sJ_eq a2 (by omega)
    obtain ⟨r1, r2⟩ := ih nf (k + 1) (by omega) (by omega)
    rw [← oad1] at r1 r2
    have up : (∃ m, k + 1 ≤ m ∧ m < t ∧ sI R (tsl t R m) = f ∧ (sJ R (tsl t R m) = g ∨ Pth (sI R) (sJ R) t 3 (sJ R (tsl t R m)) g)) → (∃ m, k ≤ m ∧ m < t ∧ sI R (tsl t R m) = f ∧ (sJ R (tsl t R m) = g ∨ Pth (sI R) (sJ R) t 3 (sJ R (tsl t R m)) g)) := fun ⟨m, m1, m2⟩ => ⟨m, by omega, m2⟩
    have no : ¬ (i = f ∧ (j = g ∨ Pth (sI R) (sJ R) t 3 j g)) → Gz (Zl (∃ m, k ≤ m ∧ m < t ∧ sI R (tsl t R m) = f ∧ (sJ R (tsl t R m) = g ∨ Pth (sI R) (sJ R) t 3 (sJ R (tsl t R m)) g))) (ok_L_leads_4_L3 nf B (Int32.ofNat f) (Int32.ofNat g) 4 (Int32.ofNat k + 1)) (f_L_leads_4_L3 nf B (Int32.ofNat f) (Int32.ofNat g) 4 (Int32.ofNat k + 1)) := by
      intro h9
      refine ⟨r1, ?_⟩
      rcases r2 with ⟨r2, r3⟩ | ⟨r2, r3⟩
      · exact Or.inl ⟨r2, up r3⟩
      · refine Or.inr ⟨r2, fun ⟨m, m1, m2, m3⟩ => ?_⟩
        by_cases hm : m = k
        · rw [hm, hI, hJ] at m3
          exact h9 m3
        · exact r3 ⟨m, by omega, m2, m3⟩
    have wi : (Int32.ofNat i = Int32.ofNat f) ↔ i = f := ofN_inj (by omega) (by omega)
    have wj : (Int32.ofNat j = Int32.ofNat g) ↔ j = g := ofN_inj (by omega) (by omega)
    unfold f_L_leads_4_L3 ok_L_leads_4_L3
    refine G_as hc (G_neg c (G_ka o1 f1 (G_ka d1 (e1.trans a1) (G_ite (fun h1 => ?_) (fun h1 => no (fun h9 => h1 (wi.mpr h9.1)))))))
    refine G_ka d2 (e2.trans a2) (G_ite (fun h2 => ?_) (fun h2 => ?_))
    · exact ⟨trivial, Or.inl ⟨rfl, k, Nat.le_refl k, by omega, by rw [hI]; exact wi.mp h1, Or.inl (by rw [hJ]; exact wj.mp h2)⟩⟩
    · refine G_neg (by decide) (G_ka d2 (e2.trans a2) ?_)
      obtain ⟨l1, l2⟩ := lead_3T hT hR hg j hj
      have l1 : ok_L_leads_3 B (Int32.ofNat j) (Int32.ofNat g) (4 - 1) := l1
      have l2 : Zl (Pth (sI R) (sJ R) t 3 j g) (f_L_leads_3 B (Int32.ofNat j) (Int32.ofNat g) (4 - 1)) := l2
      rcases l2 with ⟨l2, l3⟩ | ⟨l2, l3⟩
      · refine G_ka l1 l2 (G_neg (by decide) ⟨trivial, Or.inl ⟨rfl, k, Nat.le_refl k, by omega, by rw [hI]; exact wi.mp h1, Or.inr (by rw [hJ]; exact l3)⟩⟩)
      · exact G_ka l1 l2 (G_pos rfl (no (fun h9 => h9.2.elim (fun h => h2 (wj.mpr h)) l3)))
theorem lead_4T {e n t g : Nat} {B : StB} {R : Nat → Int32} (hT : Ti 0 n 0 0 t B 0 R) (hR : RB e (60 * e) n t 0 0 R) (hg : g < n) (f : Nat) (hf : f < n) : ok_L_leads_4 B (Int32.ofNat f) (Int32.ofNat g) 4 ∧ Zl (Pth (sI R) (sJ R) t 4 f g) (f_L_leads_4 B (Int32.ofNat f) (Int32.ofNat g) 4) := by
  have ht : t ≤ 10 := hR.2.1.1
  obtain ⟨r1, r2⟩ := lead_4 hT hR hg f hf t 20 0 (by omega) (by omega)
  have h : (∃ m, 0 ≤ m ∧ m < t ∧ sI R (tsl t R m) = f ∧ (sJ R (tsl t R m) = g ∨ Pth (sI R) (sJ R) t 3 (sJ R (tsl t R m)) g)) ↔ Pth (sI R) (sJ R) t 4 f g := by
    constructor
    · rintro ⟨m, -, m2, m3⟩
      exact ⟨tsl t R m, (ps_ok m2).1, m3⟩
    · rintro ⟨i, i1, i2⟩
      refine ⟨rk (fun j => -(R (48 + 5 * j)).toInt) i t, Nat.zero_le _, (rk_le _ i t).2 i1, ?_⟩
      have e : tsl t R (rk (fun j => -(R (48 + 5 * j)).toInt) i t) = i := ps_rk i1
      rw [e]
      exact i2
  refine ⟨r1, ?_⟩
  rcases r2 with ⟨r2, r3⟩ | ⟨r2, r3⟩
  · exact Or.inl ⟨r2, h.mp r3⟩
  · exact Or.inr ⟨r2, fun h9 => r3 (h.mpr h9)⟩
