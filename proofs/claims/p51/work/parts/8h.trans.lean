/-! the pure part: transfers, found, dropped, kept, added -/
theorem Ti_drop {f n s kp c p : Nat} {B : StB} {R : Nat → Int32} (h : Ti f n s kp c B p R) (hs : s < c) : Ti f n (s + 1) kp c B p (dw R kp) := by
  obtain ⟨hA, hT, ⟨L, w, hJ⟩, hS⟩ := h
  refine ⟨?_, ?_, ⟨L, w, ?_⟩, ?_⟩
  · simp only [TiA, dw] at hA ⊢
    grind
  · obtain ⟨t0, t1, t2, t3, t4, t5, t6, t7, t8⟩ := hT
    have e1 : Int32.ofNat (c - s + kp) - 1 = Int32.ofNat (c - (s + 1) + kp) := by
      rw [osu1 (by omega)]
      congr 1
      omega
    refine ⟨t0, ?_, t2, t3, by omega, by omega, ?_, fun k hk => ?_, fun k hk => ?_⟩
    · simp only [dw, if_true, t1, e1]
    · simp only [dw]
      rw [if_neg (by omega), if_neg (by omega)]
      exact t6
    · have := t7 k hk
      simp only [dw]
      rw [if_neg (by omega), if_neg (by omega), if_neg (by omega), if_neg (by omega), if_neg (by omega), if_neg (by omega), if_neg (by omega), if_neg (by omega), if_neg (by omega), if_neg (by omega)]
      exact this
    · have := t8 (k + 1) (by omega)
      simp only [dw]
      rw [if_neg (by omega), if_pos (by omega), if_neg (by omega), if_pos (by omega), if_neg (by omega), if_pos (by omega), if_neg (by omega), if_pos (by omega), if_neg (by omega), if_pos (by omega)]
      rw [show s + 1 + k = s + (k + 1) by omega, show 44 + 5 * (kp + k) + 5 = 44 + 5 * (kp + (k + 1)) by omega, show 45 + 5 * (kp + k) + 5 = 45 + 5 * (kp + (k + 1)) by omega, show 46 + 5 * (kp + k) + 5 = 46 + 5 * (kp + (k + 1)) by omega, show 47 + 5 * (kp + k) + 5 = 47 + 5 * (kp + (k + 1)) by omega, show 48 + 5 * (kp + k) + 5 = 48 + 5 * (kp + (k + 1)) by omega]
      exact this
  · simp only [dw] at hJ ⊢
    grind
  · simp only [TiS, dw] at hS ⊢
    grind
/-- a slot stays where it is: nothing is copied -/
theorem Ti_stay {n s kp c p : Nat} {B : StB} {R : Nat → Int32} (h : Ti 0 n s kp c B p R) (hs : s < c) : Ti 0 n (s + 1) (kp + 1) c B p R := by
  obtain ⟨hA, ⟨t0, t1, t2, t3, t4, t5, t6, t7, t8⟩, hJ, hS⟩ := h
  refine ⟨hA, ⟨t0, ?_, t2, by omega, by omega, by omega, t6, fun k hk => by omega, fun k hk => ?_⟩, hJ, hS⟩
  · rw [t1]
    congr 1
    omega
  · have := t8 (k + 1) (by omega)
    rw [show s + 1 + k = s + (k + 1) by omega, show kp + 1 + k = kp + (k + 1) by omega]
    exact this
def cpB (B : StB) (p s k : Nat) : StB := sba (sba (sba (sba (sba B (p + 7) k (ba B (p + 7) s)) (p + 8) k (ba B (p + 8) s)) (p + 9) k (ba B (p + 9) s)) (p + 10) k (ba B (p + 10) s)) (p + 11) k (ba B (p + 11) s)
theorem cp_B {B : StB} {p s k : Nat} (hs : s < 10) (hk : k < 10) : f_X5_copySlot (p + 6) (p + 6) B (Int32.ofNat s) (Int32.ofNat k) = cpB B p s k ∧ ok_X5_copySlot (p + 6) (p + 6) B (Int32.ofNat s) (Int32.ofNat k) := by
  have e1 : ix (Int32.ofNat s) = s := ix_o (by omega)
  have e2 : ix (Int32.ofNat k) = k := ix_o (by omega)
  have v1 : vp_in (Int32.ofNat s) 10 := in_o hs (by omega)
  have v2 : vp_in (Int32.ofNat k) 10 := in_o hk (by omega)
  have a1 : p + 6 + 1 = p + 7 := by omega
  have a2 : p + 6 + 2 = p + 8 := by omega
  have a3 : p + 6 + 3 = p + 9 := by omega
  have a4 : p + 6 + 4 = p + 10 := by omega
  have a5 : p + 6 + 5 = p + 11 := by omega
  have n1 : ∀ d e : Nat, d ≠ e → ¬ (p + d = p + e) := fun d e h h2 => h (by omega)
  refine ⟨?_, ?_⟩
  · simp only [f_X5_copySlot, nm_eq, e1, e2, a1, a2, a3, a4, a5, ba_sba, cpB]
    simp (disch := decide) only [n1, false_and, if_false]
  · refine ⟨v1, v2, ?_⟩
    rintro _ rfl
    refine ⟨v1, v2, ?_⟩
    rintro _ rfl
    refine ⟨v1, v2, ?_⟩
    rintro _ rfl
    refine ⟨v1, v2, ?_⟩
    rintro _ rfl
    exact ⟨v1, v2⟩
theorem Ti_copy {n s kp c p : Nat} {B : StB} {R : Nat → Int32} (h : Ti kp n s kp c B p R) (hs : s < c) : Ti (kp + 1) n (s + 1) (kp + 1) c (f_X5_copySlot (p + 6) (p + 6) B (Int32.ofNat s) (Int32.ofNat kp)) p R ∧ ok_X5_copySlot (p + 6) (p + 6) B (Int32.ofNat s) (Int32.ofNat kp) ∧ Fr p B (f_X5_copySlot (p + 6) (p + 6) B (Int32.ofNat s) (Int32.ofNat kp)) := by
  obtain ⟨hA, ⟨t0, t1, t2, t3, t4, t5, t6, t7, t8⟩, ⟨L, w, hJ⟩, hS⟩ := h
  obtain ⟨e, ok⟩ := cp_B (B := B) (p := p) (s := s) (k := kp) (by omega) (by omega)
  rw [e]
  refine ⟨⟨?_, ?_, ⟨L, w, ?_⟩, ?_⟩, ok, ?_⟩
  · simp only [TiA, cpB, bi_sba, ba_sba] at hA ⊢
    grind
  · have n1 : ∀ d e : Nat, d ≠ e → ¬ (p + d = p + e) := fun d e h h2 => h (by omega)
    refine ⟨t0, ?_, t2, by omega, by omega, by omega, t6, fun k hk => ?_, fun k hk => ?_⟩
    · rw [t1]
      congr 1
      omega
    · simp only [cpB, ba_sba]
      simp (disch := decide) only [n1, false_and, if_false, true_and]
      by_cases hk2 : k = kp
      · subst hk2
        simp only [if_true]
        have := t8 0 (by omega)
        simpa only [Nat.add_zero] using this
      · simp only [if_neg hk2]
        exact t7 k (by omega)
    · have := t8 (k + 1) (by omega)
      have hk2 : ¬ (s + 1 + k = kp) := by omega
      simp only [cpB, ba_sba]
      simp (disch := decide) only [n1, false_and, if_false, hk2, and_false]
      rw [show s + 1 + k = s + (k + 1) by omega, show kp + 1 + k = kp + (k + 1) by omega]
      exact this
  · simp only [cpB, bi_sba, ba_sba] at hJ ⊢
    grind
  · simp only [TiS, cpB, bi_sba, bl_sba] at hS ⊢
    grind
  · unfold cpB
    exact Fr_a (Fr_a (Fr_a (Fr_a (Fr_a (Fr_r p B) 7 _ _ (by decide)) 8 _ _ (by decide)) 9 _ _ (by decide)) 10 _ _ (by decide)) 11 _ _ (by decide)
theorem Ti_end {n kp c p : Nat} {B : StB} {R : Nat → Int32} (h : Ti kp n c kp c B p R) : Ti 0 n 0 0 kp (sbi B (p + 6) 0 (Int32.ofNat kp)) p R ∧ Fr p B (sbi B (p + 6) 0 (Int32.ofNat kp)) := by
  obtain ⟨hA, ⟨t0, t1, t2, t3, t4, t5, t6, t7, t8⟩, ⟨L, w, hJ⟩, hS⟩ := h
  refine ⟨⟨?_, ⟨?_, ?_, by omega, by omega, by omega, by omega, ?_, fun k hk => by omega, fun k hk => ?_⟩, ⟨L, w, ?_⟩, ?_⟩, Fr_i (Fr_r p B) 6 _ _ (by decide)⟩
  · simp only [TiA, bi_sbi, ba_sbi] at hA ⊢
    grind
  · simp only [bi_sbi, and_self, if_true]
  · rw [t1]
    congr 1
    omega
  · rw [bi_sbi, if_neg (by omega)]
    exact t6
  · have := t7 k (by omega)
    simpa only [ba_sbi, Nat.zero_add] using this
  · simp only [bi_sbi, ba_sbi] at hJ ⊢
    grind
  · simp only [TiS, bi_sbi, bl_sbi] at hS ⊢
    grind
/-- from between calls: every slot is kept at its place -/
theorem Ti_at {n c p s : Nat} {B : StB} {R : Nat → Int32} (h : Ti 0 n 0 0 c B p R) (hs : s ≤ c) : Ti s n s s c B p R := by
  obtain ⟨hA, ⟨t0, t1, t2, t3, t4, t5, t6, t7, t8⟩, hJ, hS⟩ := h
  refine ⟨hA, ⟨t0, ?_, t2, by omega, by omega, hs, t6, fun k hk => ?_, fun k hk => ?_⟩, hJ, hS⟩
  · rw [t1]
    congr 1
    omega
  · have := t8 k (by omega)
    simpa only [Nat.zero_add] using this
  · have := t8 (s + k) (by omega)
    simpa only [Nat.zero_add] using this
/-! a transfer is looked for -/
def uq (t : Nat) (R : Nat → Int32) : Prop := ∀ j k, j < t → k < t → R (44 + 5 * j) = R (44 + 5 * k) → j = k
theorem bT_uq {n t m : Nat} {R : Nat → Int32} (h : bT n t m R) : uq t R := by
  intro j k hj hk e
  rcases Nat.lt_trichotomy j k with h1 | h1 | h1
  · have := h.2.2.2.2 j k h1 hk
    rw [e] at this
    omega
  · exact h1
  · have := h.2.2.2.2 k j h1 hj
    rw [e] at this
    omega
theorem L_findM (M : StM) (R : Nat → Int32) (x : Int32) (t : Nat) (h3 : R 3 = Int32.ofNat t) (ht : t ≤ 10) : ∀ n k (v : Int32), k ≤ t → t < n + k → ok_X7_find_L4 n (rs M R) x v (Int32.ofNat k) ∧ ((∀ j, k ≤ j → j < t → R (44 + 5 * j) ≠ x) → f_X7_find_L4 n (rs M R) x v (Int32.ofNat k) = v) ∧ (∀ m, k ≤ m → m < t → R (44 + 5 * m) = x → (∀ j, j < t → R (44 + 5 * j) = x → j = m) → f_X7_find_L4 n (rs M R) x v (Int32.ofNat k) = Int32.ofNat m) := by
  intro n
  induction n with
  | zero =>
    intro k v h1 h2
    omega
  | succ n ih =>
    intro k v h1 h2
    have e1 : (Int32.ofNat t ≤ Int32.ofNat k) ↔ t ≤ k := le_ofN (by omega) (by omega)
    unfold f_X7_find_L4 ok_X7_find_L4
    simp only [ma_rs0, ixl, h3]
    by_cases h : t ≤ k
    · have hk : k = t := by omega
      simp only [if_pos (e1.mpr h)]
      refine ⟨⟨fun _ => trivial, fun h9 => absurd (e1.mpr h) h9⟩, fun _ => trivial, fun m a1 a2 => by omega⟩
    · have e2 : ix (44 + 5 * Int32.ofNat k + 0) = 44 + 5 * k := by
        rw [opla, oad0, ix_o (by omega)]
      have v2 : vp_in (44 + 5 * Int32.ofNat k + 0) 124 := by
        rw [opla, oad0]
        exact in_o (by omega) (by omega)
      simp only [if_neg (fun h9 => h (e1.mp h9)), e2, oad1]
      by_cases hx : R (44 + 5 * k) = x
      · obtain ⟨g1, g2, g3⟩ := ih (k + 1) (Int32.ofNat k) (by omega) (by omega)
        simp only [if_pos hx]
        refine ⟨⟨fun h9 => absurd (e1.mp h9) h, fun _ => ⟨v2, fun _ => g1, fun h9 => absurd hx h9⟩⟩, fun a => absurd hx (a k (by omega) (by omega)), fun m a1 a2 a3 a4 => ?_⟩
        have hmk : k = m := a4 k (by omega) hx
        subst hmk
        exact g2 (fun j b1 b2 b3 => by have := a4 j b2 b3; omega)
      · obtain ⟨g1, g2, g3⟩ := ih (k + 1) v (by omega) (by omega)
        simp only [if_neg hx]
        refine ⟨⟨fun h9 => absurd (e1.mp h9) h, fun _ => ⟨v2, fun h9 => absurd h9 hx, fun _ => g1⟩⟩, fun a => g2 (fun j b1 b2 => a j (by omega) b2), fun m a1 a2 a3 a4 => g3 m ?_ a2 a3 a4⟩
        rcases Nat.eq_or_lt_of_le a1 with rfl | h9
        · exact absurd a3 hx
        · omega
theorem find_M {M : StM} {R : Nat → Int32} {t : Nat} (x : Int32) (h3 : R 3 = Int32.ofNat t) (ht : t ≤ 10) (hu : uq t R) : ok_X7_find (rs M R) x ∧ ((∀ j, j < t → R (44 + 5 * j) ≠ x) → f_X7_find (rs M R) x = -1) ∧ (∀ m, m < t → R (44 + 5 * m) = x → f_X7_find (rs M R) x = Int32.ofNat m) := by
  have hfu : t < fu + 0 := by unfold fu; omega
  obtain ⟨g1, g2, g3⟩ := L_findM M R x t h3 ht fu 0 (-1) (by omega) hfu
  clear hfu
  refine ⟨g1, fun a => ?_, fun m a1 a2 => ?_⟩
  · unfold f_X7_find
    rw [nm_eq]
    exact g2 (fun j _ b => a j b)
  · unfold f_X7_find
    rw [nm_eq]
    exact g3 m (by omega) a1 a2 (fun j b1 b2 => hu j m b1 a1 (b2.trans a2.symm))
theorem L_findC (B : StB) (q : Nat) (x : Int32) (t : Nat) (h3 : bi B q 0 = Int32.ofNat t) (ht : t ≤ 10) : ∀ n k, k ≤ t → t < n + k → ok_X5_find_L2 n q B x (Int32.ofNat k) ∧ ((∀ j, k ≤ j → j < t → ba B (q + 1) j ≠ x) → f_X5_find_L2 n q B x (Int32.ofNat k) = -1) ∧ (∀ m, k ≤ m → m < t → ba B (q + 1) m = x → (∀ j, j < t → ba B (q + 1) j = x → j = m) → f_X5_find_L2 n q B x (Int32.ofNat k) = Int32.ofNat m) := by
  intro n
  induction n with
  | zero =>
    intro k h1 h2
    omega
  | succ n ih =>
    intro k h1 h2
    have e1 : (Int32.ofNat t ≤ Int32.ofNat k) ↔ t ≤ k := le_ofN (by omega) (by omega)
    unfold f_X5_find_L2 ok_X5_find_L2
    simp only [h3]
    by_cases h : t ≤ k
    · simp only [if_pos (e1.mpr h)]
      refine ⟨⟨fun _ => trivial, fun h9 => absurd (e1.mpr h) h9⟩, fun _ => trivial, fun m a1 a2 => by omega⟩
    · have e2 : ix (Int32.ofNat k) = k := ix_o (by omega)
      have v2 : vp_in (Int32.ofNat k) 10 := in_o (by omega) (by omega)
      simp only [if_neg (fun h9 => h (e1.mp h9)), e2, oad1]
      obtain ⟨g1, g2, g3⟩ := ih (k + 1) (by omega) (by omega)
      by_cases hx : ba B (q + 1) k = x
      · simp only [if_pos hx]
        refine ⟨⟨fun h9 => absurd (e1.mp h9) h, fun _ => ⟨v2, fun _ => trivial, fun h9 => absurd hx h9⟩⟩, fun a => absurd hx (a k (by omega) (by omega)), fun m a1 a2 a3 a4 => ?_⟩
        rw [a4 k (by omega) hx]
      · simp only [if_neg hx]
        refine ⟨⟨fun h9 => absurd (e1.mp h9) h, fun _ => ⟨v2, fun h9 => absurd h9 hx, fun _ => g1⟩⟩, fun a => g2 (fun j b1 b2 => a j (by omega) b2), fun m a1 a2 a3 a4 => g3 m ?_ a2 a3 a4⟩
        rcases Nat.eq_or_lt_of_le a1 with rfl | h9
        · exact absurd a3 hx
        · omega
theorem find_C {n p t : Nat} {B : StB} {R : Nat → Int32} (x : Int32) (hT : Ti 0 n 0 0 t B p R) (hu : uq t R) : ok_X5_find (p + 6) B x ∧ ((∀ j, j < t → R (44 + 5 * j) ≠ x) → f_X5_find (p + 6) B x = -1) ∧ (∀ m, m < t → R (44 + 5 * m) = x → f_X5_find (p + 6) B x = Int32.ofNat m) := by
  have hfu : t < fu + 0 := by have := (Ti_c hT).2.2.1; unfold fu; omega
  obtain ⟨g1, g2, g3⟩ := L_findC B (p + 6) x t (Ti_c hT).1 (Ti_c hT).2.2.1 fu 0 (by omega) hfu
  clear hfu
  have e : ∀ j, j < t → ba B (p + 6 + 1) j = R (44 + 5 * j) := fun j hj => (Ti_q hT hj).1
  refine ⟨g1, fun a => ?_, fun m a1 a2 => ?_⟩
  · unfold f_X5_find
    exact g2 (fun j _ b => by rw [e j b]; exact a j b)
  · unfold f_X5_find
    exact g3 m (by omega) a1 (by rw [e m a1]; exact a2) (fun j b1 b2 => hu j m b1 a1 (by rw [e j b1] at b2; exact b2.trans a2.symm))
