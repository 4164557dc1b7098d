/-! the pure part: a ledger is copied -/
def Fg (lo hi : Nat) (B B' : StB) : Prop := bz B' = bz B ∧ ∀ q k, (q < lo ∨ hi ≤ q) → bi B' q k = bi B q k ∧ bl B' q k = bl B q k ∧ ba B' q k = ba B q k
theorem Fg_r (lo hi : Nat) (B : StB) : Fg lo hi B B := ⟨rfl, fun _ _ _ => ⟨rfl, rfl, rfl⟩⟩
theorem Fg_t {lo hi : Nat} {B C D : StB} (h : Fg lo hi B C) (h2 : Fg lo hi C D) : Fg lo hi B D := ⟨h2.1.trans h.1, fun q k hq => ⟨(h2.2 q k hq).1.trans (h.2 q k hq).1, (h2.2 q k hq).2.1.trans (h.2 q k hq).2.1, (h2.2 q k hq).2.2.trans (h.2 q k hq).2.2⟩⟩
theorem Fg_w {lo hi lo' hi' : Nat} {B C : StB} (h : Fg lo hi B C) (h1 : lo' ≤ lo) (h2 : hi ≤ hi') : Fg lo' hi' B C := ⟨h.1, fun q k hq => h.2 q k (by omega)⟩
theorem Fg_i {lo hi q : Nat} {B C : StB} (h : Fg lo hi B C) (k : Nat) (v : Int32) (h1 : lo ≤ q) (h2 : q < hi) : Fg lo hi B (sbi C q k v) := ⟨h.1, fun a j hq => by
  refine ⟨?_, (h.2 a j hq).2⟩
  rw [bi_sbi, if_neg (by omega)]
  exact (h.2 a j hq).1⟩
theorem Fg_l {lo hi q : Nat} {B C : StB} (h : Fg lo hi B C) (k : Nat) (v : Int64) (h1 : lo ≤ q) (h2 : q < hi) : Fg lo hi B (sbl C q k v) := ⟨h.1, fun a j hq => by
  refine ⟨(h.2 a j hq).1, ?_, (h.2 a j hq).2.2⟩
  rw [bl_sbl, if_neg (by omega)]
  exact (h.2 a j hq).2.1⟩
theorem Fg_a {lo hi q : Nat} {B C : StB} (h : Fg lo hi B C) (k : Nat) (v : Int32) (h1 : lo ≤ q) (h2 : q < hi) : Fg lo hi B (sba C q k v) := ⟨h.1, fun a j hq => by
  refine ⟨(h.2 a j hq).1, (h.2 a j hq).2.1, ?_⟩
  rw [ba_sba, if_neg (by omega)]
  exact (h.2 a j hq).2.2⟩
def cA4 (B : StB) (p i : Nat) (a b c d : Int32) : StB := sba (sba (sba (sba B (p + 2) i a) (p + 3) i b) (p + 4) i c) (p + 5) i d
theorem L_cpA {n p q : Nat} {B0 : StB} {R : Nat → Int32} (hA : TiA n B0 q R) (h01 : ∀ i, i < n → R (15 + 4 * i) = 0 ∨ R (15 + 4 * i) = 1) (hpq : q + 16 ≤ p ∨ p + 16 ≤ q) : ∀ (g n1 i : Nat) (B : StB), i + g = n → g < n1 → bi B (p + 1) 0 = Int32.ofNat n → Fg (p + 1) (p + 6) B0 B → (∀ j, j < i → ba B (p + 2) j = R (12 + 4 * j) ∧ ba B (p + 3) j = R (13 + 4 * j) ∧ ba B (p + 4) j = R (14 + 4 * j) ∧ ba B (p + 5) j = R (15 + 4 * j)) → ok_X0_copyFrom_L10 n1 (p + 1) (q + 1) B (Int32.ofNat i) ∧ bi (f_X0_copyFrom_L10 n1 (p + 1) (q + 1) B (Int32.ofNat i)) (p + 1) 0 = Int32.ofNat n ∧ Fg (p + 1) (p + 6) B0 (f_X0_copyFrom_L10 n1 (p + 1) (q + 1) B (Int32.ofNat i)) ∧ (∀ j, j < n → ba (f_X0_copyFrom_L10 n1 (p + 1) (q + 1) B (Int32.ofNat i)) (p + 2) j = R (12 + 4 * j) ∧ ba (f_X0_copyFrom_L10 n1 (p + 1) (q + 1) B (Int32.ofNat i)) (p + 3) j = R (13 + 4 * j) ∧ ba (f_X0_copyFrom_L10 n1 (p + 1) (q + 1) B (Int32.ofNat i)) (p + 4) j = R (14 + 4 * j) ∧ ba (f_X0_copyFrom_L10 n1 (p + 1) (q + 1) B (Int32.ofNat i)) (p + 5) j = R (15 + 4 * j)) := by
  intro g
  induction g with
  | zero =>
    intro n1 i B hi h1 c1 hF hc
    obtain ⟨n1, rfl⟩ : ∃ q, n1 = q + 1 := ⟨n1 - 1, by omega⟩
    have hni : n = i := by omega
    subst hni
    have hn := hA.2.2.1
    have w1 : Int32.ofNat n ≤ Int32.ofNat n := (le_ofN (by omega) (by omega)).mpr (Nat.le_refl n)
    have ef : f_X0_copyFrom_L10 (n1 + 1) (p + 1) (q + 1) B (Int32.ofNat n) = B := by
      unfold f_X0_copyFrom_L10
      rw [c1, if_pos w1]
    rw [ef]
    refine ⟨?_, c1, hF, hc⟩
    unfold ok_X0_copyFrom_L10
    rw [c1]
    exact ⟨fun _ => trivial, fun h9 => absurd w1 h9⟩
  | succ g ih =>
    intro n1 i B hi h1 c1 hF hc
    obtain ⟨n1, rfl⟩ : ∃ q, n1 = q + 1 := ⟨n1 - 1, by omega⟩
    have hn := hA.2.2.1
    have w1 : ¬ Int32.ofNat n ≤ Int32.ofNat i := by
      rw [le_ofN (by omega) (by omega)]
      omega
    have hx : ix (Int32.ofNat i) = i := ix_o (by omega)
    have hv : vp_in (Int32.ofNat i) 8 := in_o (by omega) (by omega)
    have e2 : ba B (q + 1 + 1) i = R (12 + 4 * i) := ((hF.2 _ _ (by omega)).2.2).trans (hA.2.2.2.1 i (by omega))
    have e3 : ba B (q + 1 + 2) i = R (13 + 4 * i) := ((hF.2 _ _ (by omega)).2.2).trans (hA.2.2.2.2.1 i (by omega))
    have e4 : ba B (q + 1 + 3) i = R (14 + 4 * i) := ((hF.2 _ _ (by omega)).2.2).trans (hA.2.2.2.2.2.1 i (by omega))
    have e5 : ba B (q + 1 + 4) i = R (15 + 4 * i) := ((hF.2 _ _ (by omega)).2.2).trans (hA.2.2.2.2.2.2 i (by omega))
    have n1' : ∀ d e, d < 16 → e < 16 → (q + 1 + d = p + 1 + e) = False := fun d e _ _ => eq_false (by omega)
    have k1 : f_X0_copyFrom_L10 (n1 + 1) (p + 1) (q + 1) B (Int32.ofNat i) = f_X0_copyFrom_L10 n1 (p + 1) (q + 1) (cA4 B p i (R (12 + 4 * i)) (R (13 + 4 * i)) (R (14 + 4 * i)) (R (15 + 4 * i))) (Int32.ofNat (i + 1)) := by
      have e5' : vp_nar .boolean (R (15 + 4 * i)) = R (15 + 4 * i) := vn01 (h01 i (by omega))
      simp (disch := decide) only [f_X0_copyFrom_L10, c1, if_neg w1, nm_eq, hx, ba_sba, n1', false_and, if_false, e2, e3, e4, e5, e5', oad1]
      rfl
    have hF2 : Fg (p + 1) (p + 6) B0 (cA4 B p i (R (12 + 4 * i)) (R (13 + 4 * i)) (R (14 + 4 * i)) (R (15 + 4 * i))) := Fg_a (Fg_a (Fg_a (Fg_a hF _ _ (by omega) (by omega)) _ _ (by omega) (by omega)) _ _ (by omega) (by omega)) _ _ (by omega) (by omega)
    have hc2 : ∀ j, j < i + 1 → ba (cA4 B p i (R (12 + 4 * i)) (R (13 + 4 * i)) (R (14 + 4 * i)) (R (15 + 4 * i))) (p + 2) j = R (12 + 4 * j) ∧ ba (cA4 B p i (R (12 + 4 * i)) (R (13 + 4 * i)) (R (14 + 4 * i)) (R (15 + 4 * i))) (p + 3) j = R (13 + 4 * j) ∧ ba (cA4 B p i (R (12 + 4 * i)) (R (13 + 4 * i)) (R (14 + 4 * i)) (R (15 + 4 * i))) (p + 4) j = R (14 + 4 * j) ∧ ba (cA4 B p i (R (12 + 4 * i)) (R (13 + 4 * i)) (R (14 + 4 * i)) (R (15 + 4 * i))) (p + 5) j = R (15 + 4 * j) := by
      intro j hj
      unfold cA4
      by_cases hji : j = i
      · subst hji
        refine ⟨?_, ?_, ?_, ?_⟩
        · rw [ba_sba, if_neg (by omega), ba_sba, if_neg (by omega), ba_sba, if_neg (by omega), ba_sba, if_pos ⟨rfl, rfl⟩]
        · rw [ba_sba, if_neg (by omega), ba_sba, if_neg (by omega), ba_sba, if_pos ⟨rfl, rfl⟩]
        · rw [ba_sba, if_neg (by omega), ba_sba, if_pos ⟨rfl, rfl⟩]
        · rw [ba_sba, if_pos ⟨rfl, rfl⟩]
      · have h0 := hc j (by omega)
        refine ⟨?_, ?_, ?_, ?_⟩
        · rw [ba_sba, if_neg (by omega), ba_sba, if_neg (by omega), ba_sba, if_neg (by omega), ba_sba, if_neg (by omega)]
          exact h0.1
        · rw [ba_sba, if_neg (by omega), ba_sba, if_neg (by omega), ba_sba, if_neg (by omega), ba_sba, if_neg (by omega)]
          exact h0.2.1
        · rw [ba_sba, if_neg (by omega), ba_sba, if_neg (by omega), ba_sba, if_neg (by omega), ba_sba, if_neg (by omega)]
          exact h0.2.2.1
        · rw [ba_sba, if_neg (by omega), ba_sba, if_neg (by omega), ba_sba, if_neg (by omega), ba_sba, if_neg (by omega)]
          exact h0.2.2.2
    obtain ⟨r1, r2, r3, r4⟩ := ih n1 (i + 1) (cA4 B p i (R (12 + 4 * i)) (R (13 + 4 * i)) (R (14 + 4 * i)) (R (15 + 4 * i))) (by omega) (by omega) c1 hF2 hc2
    rw [k1]
    refine ⟨?_, r2, r3, r4⟩
    unfold ok_X0_copyFrom_L10
    rw [c1]
    refine ⟨fun _ => trivial, fun _ => ⟨hv, hv, ?_⟩⟩
    rintro _ rfl
    refine ⟨hv, hv, ?_⟩
    rintro _ rfl
    refine ⟨hv, hv, ?_⟩
    rintro _ rfl
    refine ⟨hv, hv, ?_⟩
    rintro _ rfl
    have e5' : vp_nar .boolean (R (15 + 4 * i)) = R (15 + 4 * i) := vn01 (h01 i (by omega))
    simp (disch := decide) only [hx, ba_sba, n1', false_and, if_false, e2, e3, e4, e5, e5', oad1]
    exact r1
def cT5 (B : StB) (p i : Nat) (a b c d e : Int32) : StB := sba (sba (sba (sba (sba B (p + 7) i a) (p + 8) i b) (p + 9) i c) (p + 10) i d) (p + 11) i e
theorem L_cpT {t p q : Nat} {B0 : StB} {R : Nat → Int32} (ht : t ≤ 10) (hT : ∀ k, k < t → ba B0 (q + 7) k = R (44 + 5 * k) ∧ ba B0 (q + 8) k = R (45 + 5 * k) ∧ ba B0 (q + 9) k = R (46 + 5 * k) ∧ ba B0 (q + 10) k = R (47 + 5 * k) ∧ ba B0 (q + 11) k = R (48 + 5 * k)) (hpq : q + 16 ≤ p ∨ p + 16 ≤ q) : ∀ (g n1 i : Nat) (B : StB), i + g = t → g < n1 → bi B (p + 6) 0 = Int32.ofNat t → Fg (p + 6) (p + 12) B0 B → (∀ j, j < i → ba B (p + 7) j = R (44 + 5 * j) ∧ ba B (p + 8) j = R (45 + 5 * j) ∧ ba B (p + 9) j = R (46 + 5 * j) ∧ ba B (p + 10) j = R (47 + 5 * j) ∧ ba B (p + 11) j = R (48 + 5 * j)) → ok_X5_copyFrom_L18 n1 (p + 6) (q + 6) B (Int32.ofNat i) ∧ (∀ k, bi (f_X5_copyFrom_L18 n1 (p + 6) (q + 6) B (Int32.ofNat i)) (p + 6) k = bi B (p + 6) k) ∧ Fg (p + 6) (p + 12) B0 (f_X5_copyFrom_L18 n1 (p + 6) (q + 6) B (Int32.ofNat i)) ∧ (∀ j, j < t → ba (f_X5_copyFrom_L18 n1 (p + 6) (q + 6) B (Int32.ofNat i)) (p + 7) j = R (44 + 5 * j) ∧ ba (f_X5_copyFrom_L18 n1 (p + 6) (q + 6) B (Int32.ofNat i)) (p + 8) j = R (45 + 5 * j) ∧ ba (f_X5_copyFrom_L18 n1 (p + 6) (q + 6) B (Int32.ofNat i)) (p + 9) j = R (46 + 5 * j) ∧ ba (f_X5_copyFrom_L18 n1 (p + 6) (q + 6) B (Int32.ofNat i)) (p + 10) j = R (47 + 5 * j) ∧ ba (f_X5_copyFrom_L18 n1 (p + 6) (q + 6) B (Int32.ofNat i)) (p + 11) j = R (48 + 5 * j)) := by
  intro g
  induction g with
  | zero =>
    intro n1 i B hi h1 c1 hF hc
    obtain ⟨n1, rfl⟩ : ∃ q, n1 = q + 1 := ⟨n1 - 1, by omega⟩
    have hni : t = i := by omega
    subst hni
    have w1 : Int32.ofNat t ≤ Int32.ofNat t := (le_ofN (by omega) (by omega)).mpr (Nat.le_refl t)
    have ef : f_X5_copyFrom_L18 (n1 + 1) (p + 6) (q + 6) B (Int32.ofNat t) = B := by
      unfold f_X5_copyFrom_L18
      rw [c1, if_pos w1]
    rw [ef]
    refine ⟨?_, fun _ => rfl, hF, hc⟩
    unfold ok_X5_copyFrom_L18
    rw [c1]
    exact ⟨fun _ => trivial, fun h9 => absurd w1 h9⟩
  | succ g ih =>
    intro n1 i B hi h1 c1 hF hc
    obtain ⟨n1, rfl⟩ : ∃ q, n1 = q + 1 := ⟨n1 - 1, by omega⟩
    have w1 : ¬ Int32.ofNat t ≤ Int32.ofNat i := by
      rw [le_ofN (by omega) (by omega)]
      omega
    have hx : ix (Int32.ofNat i) = i := ix_o (by omega)
    have hv : vp_in (Int32.ofNat i) 10 := in_o (by omega) (by omega)
    have h0 := hT i (by omega)
    have e1 : ba B (q + 6 + 1) i = R (44 + 5 * i) := ((hF.2 _ _ (by omega)).2.2).trans h0.1
    have e2 : ba B (q + 6 + 2) i = R (45 + 5 * i) := ((hF.2 _ _ (by omega)).2.2).trans h0.2.1
    have e3 : ba B (q + 6 + 3) i = R (46 + 5 * i) := ((hF.2 _ _ (by omega)).2.2).trans h0.2.2.1
    have e4 : ba B (q + 6 + 4) i = R (47 + 5 * i) := ((hF.2 _ _ (by omega)).2.2).trans h0.2.2.2.1
    have e5 : ba B (q + 6 + 5) i = R (48 + 5 * i) := ((hF.2 _ _ (by omega)).2.2).trans h0.2.2.2.2
    have n1' : ∀ d e, d < 10 → e < 10 → (q + 6 + d = p + 6 + e) = False := fun d e _ _ => eq_false (by omega)
    have kS : f_X5_copySlot (p + 6) (q + 6) B (Int32.ofNat i) (Int32.ofNat i) = cT5 B p i (R (44 + 5 * i)) (R (45 + 5 * i)) (R (46 + 5 * i)) (R (47 + 5 * i)) (R (48 + 5 * i)) := by
      simp (disch := decide) only [f_X5_copySlot, nm_eq, hx, ba_sba, n1', false_and, if_false, e1, e2, e3, e4, e5]
      rfl
    have oS : ok_X5_copySlot (p + 6) (q + 6) B (Int32.ofNat i) (Int32.ofNat i) := by
      refine ⟨hv, hv, ?_⟩
      rintro _ rfl
      refine ⟨hv, hv, ?_⟩
      rintro _ rfl
      refine ⟨hv, hv, ?_⟩
      rintro _ rfl
      refine ⟨hv, hv, ?_⟩
      rintro _ rfl
      exact ⟨hv, hv⟩
    have k1 : f_X5_copyFrom_L18 (n1 + 1) (p + 6) (q + 6) B (Int32.ofNat i) = f_X5_copyFrom_L18 n1 (p + 6) (q + 6) (cT5 B p i (R (44 + 5 * i)) (R (45 + 5 * i)) (R (46 + 5 * i)) (R (47 + 5 * i)) (R (48 + 5 * i))) (Int32.ofNat (i + 1)) := by
      simp only [f_X5_copyFrom_L18, c1, if_neg w1, nm_eq, kS, oad1]
    have hF2 : Fg (p + 6) (p + 12) B0 (cT5 B p i (R (44 + 5 * i)) (R (45 + 5 * i)) (R (46 + 5 * i)) (R (47 + 5 * i)) (R (48 + 5 * i))) := Fg_a (Fg_a (Fg_a (Fg_a (Fg_a hF _ _ (by omega) (by omega)) _ _ (by omega) (by omega)) _ _ (by omega) (by omega)) _ _ (by omega) (by omega)) _ _ (by omega) (by omega)
    have hc2 : ∀ j, j < i + 1 → ba (cT5 B p i (R (44 + 5 * i)) (R (45 + 5 * i)) (R (46 + 5 * i)) (R (47 + 5 * i)) (R (48 + 5 * i))) (p + 7) j = R (44 + 5 * j) ∧ ba (cT5 B p i (R (44 + 5 * i)) (R (45 + 5 * i)) (R (46 + 5 * i)) (R (47 + 5 * i)) (R (48 + 5 * i))) (p + 8) j = R (45 + 5 * j) ∧ ba (cT5 B p i (R (44 + 5 * i)) (R (45 + 5 * i)) (R (46 + 5 * i)) (R (47 + 5 * i)) (R (48 + 5 * i))) (p + 9) j = R (46 + 5 * j) ∧ ba (cT5 B p i (R (44 + 5 * i)) (R (45 + 5 * i)) (R (46 + 5 * i)) (R (47 + 5 * i)) (R (48 + 5 * i))) (p + 10) j = R (47 + 5 * j) ∧ ba (cT5 B p i (R (44 + 5 * i)) (R (45 + 5 * i)) (R (46 + 5 * i)) (R (47 + 5 * i)) (R (48 + 5 * i))) (p + 11) j = R (48 + 5 * j) := by
      intro j hj
      unfold cT5
      by_cases hji : j = i
      · subst hji
        refine ⟨?_, ?_, ?_, ?_, ?_⟩
        · rw [ba_sba, if_neg (by omega), ba_sba, if_neg (by omega), ba_sba, if_neg (by omega), ba_sba, if_neg (by omega), ba_sba, if_pos ⟨rfl, rfl⟩]
        · rw [ba_sba, if_neg (by omega), ba_sba, if_neg (by omega), ba_sba, if_neg (by omega), ba_sba, if_pos ⟨rfl, rfl⟩]
        · rw [ba_sba, if_neg (by omega), ba_sba, if_neg (by omega), ba_sba, if_pos ⟨rfl, rfl⟩]
        · rw [ba_sba, if_neg (by omega), ba_sba, if_pos ⟨rfl, rfl⟩]
        · rw [ba_sba, if_pos ⟨rfl, rfl⟩]
      · have h0 := hc j (by omega)
        refine ⟨?_, ?_, ?_, ?_, ?_⟩
        · rw [ba_sba, if_neg (by omega), ba_sba, if_neg (by omega), ba_sba, if_neg (by omega), ba_sba, if_neg (by omega), ba_sba, if_neg (by omega)]
          exact h0.1
        · rw [ba_sba, if_neg (by omega), ba_sba, if_neg (by omega), ba_sba, if_neg (by omega), ba_sba, if_neg (by omega), ba_sba, if_neg (by omega)]
          exact h0.2.1
        · rw [ba_sba, if_neg (by omega), ba_sba, if_neg (by omega), ba_sba, if_neg (by omega), ba_sba, if_neg (by omega), ba_sba, if_neg (by omega)]
          exact h0.2.2.1
        · rw [ba_sba, if_neg (by omega), ba_sba, if_neg (by omega), ba_sba, if_neg (by omega), ba_sba, if_neg (by omega), ba_sba, if_neg (by omega)]
          exact h0.2.2.2.1
        · rw [ba_sba, if_neg (by omega), ba_sba, if_neg (by omega), ba_sba, if_neg (by omega), ba_sba, if_neg (by omega), ba_sba, if_neg (by omega)]
          exact h0.2.2.2.2
    obtain ⟨r1, r2, r3, r4⟩ := ih n1 (i + 1) (cT5 B p i (R (44 + 5 * i)) (R (45 + 5 * i)) (R (46 + 5 * i)) (R (47 + 5 * i)) (R (48 + 5 * i))) (by omega) (by omega) c1 hF2 hc2
    rw [k1]
    refine ⟨?_, fun k => r2 k, r3, r4⟩
    unfold ok_X5_copyFrom_L18
    rw [c1]
    refine ⟨fun _ => trivial, fun _ => ⟨oS, ?_⟩⟩
    rintro _ rfl
    rw [kS, oad1]
    exact r1
def cJ3 (B : StB) (p i : Nat) (a b c : Int32) : StB := sba (sba (sba B (p + 13) i a) (p + 14) i b) (p + 15) i c
theorem L_cpJ {p q : Nat} {B0 : StB} (hpq : q + 16 ≤ p ∨ p + 16 ≤ q) : ∀ (g n1 i : Nat) (B : StB), i + g = 10 → g < n1 → Fg (p + 12) (p + 16) B0 B → (∀ j, j < i → ba B (p + 13) j = vp_nar .char (ba B0 (q + 13) j) ∧ ba B (p + 14) j = ba B0 (q + 14) j ∧ ba B (p + 15) j = ba B0 (q + 15) j) → ok_X2_copyFrom_L18 n1 (p + 12) (q + 12) B (Int32.ofNat i) ∧ (∀ k, bi (f_X2_copyFrom_L18 n1 (p + 12) (q + 12) B (Int32.ofNat i)) (p + 12) k = bi B (p + 12) k) ∧ Fg (p + 12) (p + 16) B0 (f_X2_copyFrom_L18 n1 (p + 12) (q + 12) B (Int32.ofNat i)) ∧ (∀ j, j < 10 → ba (f_X2_copyFrom_L18 n1 (p + 12) (q + 12) B (Int32.ofNat i)) (p + 13) j = vp_nar .char (ba B0 (q + 13) j) ∧ ba (f_X2_copyFrom_L18 n1 (p + 12) (q + 12) B (Int32.ofNat i)) (p + 14) j = ba B0 (q + 14) j ∧ ba (f_X2_copyFrom_L18 n1 (p + 12) (q + 12) B (Int32.ofNat i)) (p + 15) j = ba B0 (q + 15) j) := by
  intro g
  induction g with
  | zero =>
    intro n1 i B hi h1 hF hc
    obtain ⟨n1, rfl⟩ : ∃ q, n1 = q + 1 := ⟨n1 - 1, by omega⟩
    have hni : i = 10 := by omega
    subst hni
    have w1 : (10 : Int32) ≤ Int32.ofNat 10 := by decide
    have ef : f_X2_copyFrom_L18 (n1 + 1) (p + 12) (q + 12) B (Int32.ofNat 10) = B := by
      unfold f_X2_copyFrom_L18
      rw [if_pos w1]
    rw [ef]
    refine ⟨?_, fun _ => rfl, hF, hc⟩
    unfold ok_X2_copyFrom_L18
    exact ⟨fun _ => trivial, fun h9 => absurd w1 h9⟩
  | succ g ih =>
    intro n1 i B hi h1 hF hc
    obtain ⟨n1, rfl⟩ : ∃ q, n1 = q + 1 := ⟨n1 - 1, by omega⟩
    have w1 : ¬ (10 : Int32) ≤ Int32.ofNat i := by
      rw [show (10 : Int32) = Int32.ofNat 10 from rfl, le_ofN (by omega) (by omega)]
      omega
    have hx : ix (Int32.ofNat i) = i := ix_o (by omega)
    have hv : vp_in (Int32.ofNat i) 10 := in_o (by omega) (by omega)
    have e1 : ba B (q + 12 + 1) i = ba B0 (q + 13) i := (hF.2 _ _ (by omega)).2.2
    have e2 : ba B (q + 12 + 2) i = ba B0 (q + 14) i := (hF.2 _ _ (by omega)).2.2
    have e3 : ba B (q + 12 + 3) i = ba B0 (q + 15) i := (hF.2 _ _ (by omega)).2.2
    have n1' : ∀ d e, d < 4 → e < 4 → (q + 12 + d = p + 12 + e) = False := fun d e _ _ => eq_false (by omega)
    have k1 : f_X2_copyFrom_L18 (n1 + 1) (p + 12) (q + 12) B (Int32.ofNat i) = f_X2_copyFrom_L18 n1 (p + 12) (q + 12) (cJ3 B p i (vp_nar .char (ba B0 (q + 13) i)) (ba B0 (q + 14) i) (ba B0 (q + 15) i)) (Int32.ofNat (i + 1)) := by
      simp (disch := decide) only [f_X2_copyFrom_L18, if_neg w1, nm_eq, hx, ba_sba, n1', false_and, if_false, e1, e2, e3, oad1]
      rfl
    have hF2 : Fg (p + 12) (p + 16) B0 (cJ3 B p i (vp_nar .char (ba B0 (q + 13) i)) (ba B0 (q + 14) i) (ba B0 (q + 15) i)) := Fg_a (Fg_a (Fg_a hF _ _ (by omega) (by omega)) _ _ (by omega) (by omega)) _ _ (by omega) (by omega)
    have hc2 : ∀ j, j < i + 1 → ba (cJ3 B p i (vp_nar .char (ba B0 (q + 13) i)) (ba B0 (q + 14) i) (ba B0 (q + 15) i)) (p + 13) j = vp_nar .char (ba B0 (q + 13) j) ∧ ba (cJ3 B p i (vp_nar .char (ba B0 (q + 13) i)) (ba B0 (q + 14) i) (ba B0 (q + 15) i)) (p + 14) j = ba B0 (q + 14) j ∧ ba (cJ3 B p i (vp_nar .char (ba B0 (q + 13) i)) (ba B0 (q + 14) i) (ba B0 (q + 15) i)) (p + 15) j = ba B0 (q + 15) j := by
      intro j hj
      unfold cJ3
      by_cases hji : j = i
      · subst hji
        refine ⟨?_, ?_, ?_⟩
        · rw [ba_sba, if_neg (by omega), ba_sba, if_neg (by omega), ba_sba, if_pos ⟨rfl, rfl⟩]
        · rw [ba_sba, if_neg (by omega), ba_sba, if_pos ⟨rfl, rfl⟩]
        · rw [ba_sba, if_pos ⟨rfl, rfl⟩]
      · have h0 := hc j (by omega)
        refine ⟨?_, ?_, ?_⟩
        · rw [ba_sba, if_neg (by omega), ba_sba, if_neg (by omega), ba_sba, if_neg (by omega)]
          exact h0.1
        · rw [ba_sba, if_neg (by omega), ba_sba, if_neg (by omega), ba_sba, if_neg (by omega)]
          exact h0.2.1
        · rw [ba_sba, if_neg (by omega), ba_sba, if_neg (by omega), ba_sba, if_neg (by omega)]
          exact h0.2.2
    obtain ⟨r1, r2, r3, r4⟩ := ih n1 (i + 1) (cJ3 B p i (vp_nar .char (ba B0 (q + 13) i)) (ba B0 (q + 14) i) (ba B0 (q + 15) i)) (by omega) (by omega) hF2 hc2
    rw [k1]
    refine ⟨?_, fun k => r2 k, r3, r4⟩
    unfold ok_X2_copyFrom_L18
    refine ⟨fun _ => trivial, fun _ => ⟨hv, hv, ?_⟩⟩
    rintro _ rfl
    refine ⟨hv, hv, ?_⟩
    rintro _ rfl
    refine ⟨hv, hv, ?_⟩
    rintro _ rfl
    simp (disch := decide) only [hx, ba_sba, n1', false_and, if_false, e1, e2, e3, oad1]
    exact r1
theorem TiA_Fg {n q lo hi : Nat} {B C : StB} {R : Nat → Int32} (h : TiA n B q R) (g : Fg lo hi B C) (hq : q + 6 ≤ lo ∨ hi ≤ q + 1) : TiA n C q R := by
  have e1 : ∀ d k, 1 ≤ d → d < 6 → bi C (q + d) k = bi B (q + d) k := fun d k h1 h2 => (g.2 (q + d) k (by omega)).1
  have e2 : ∀ d k, 1 ≤ d → d < 6 → ba C (q + d) k = ba B (q + d) k := fun d k h1 h2 => (g.2 (q + d) k (by omega)).2.2
  unfold TiA at h ⊢
  simp (disch := decide) only [e1, e2]
  exact h
theorem TiT_Fg {f s kp c q lo hi : Nat} {B C : StB} {R : Nat → Int32} (h : TiT f s kp c B q R) (g : Fg lo hi B C) (hq : q + 12 ≤ lo ∨ hi ≤ q + 6) : TiT f s kp c C q R := by
  have e1 : ∀ d k, 6 ≤ d → d < 12 → bi C (q + d) k = bi B (q + d) k := fun d k h1 h2 => (g.2 (q + d) k (by omega)).1
  have e2 : ∀ d k, 6 ≤ d → d < 12 → ba C (q + d) k = ba B (q + d) k := fun d k h1 h2 => (g.2 (q + d) k (by omega)).2.2
  unfold TiT at h ⊢
  simp (disch := decide) only [e1, e2]
  exact h
theorem TiJ_Fg {q lo hi : Nat} {B C : StB} {R : Nat → Int32} (h : TiJ B q R) (g : Fg lo hi B C) (hq : q + 16 ≤ lo ∨ hi ≤ q + 12) : TiJ C q R := by
  have e1 : ∀ d k, 12 ≤ d → d < 16 → bi C (q + d) k = bi B (q + d) k := fun d k h1 h2 => (g.2 (q + d) k (by omega)).1
  have e2 : ∀ d k, 12 ≤ d → d < 16 → ba C (q + d) k = ba B (q + d) k := fun d k h1 h2 => (g.2 (q + d) k (by omega)).2.2
  unfold TiJ at h ⊢
  simp (disch := decide) only [e1, e2]
  exact h
theorem TiS_Fg {q lo hi : Nat} {B C : StB} {R : Nat → Int32} (h : TiS B q R) (g : Fg lo hi B C) (hq : q < lo ∨ hi ≤ q) : TiS C q R := by
  have e1 : ∀ k, bi C q k = bi B q k := fun k => (g.2 q k hq).1
  have e3 : ∀ k, bl C q k = bl B q k := fun k => (g.2 q k hq).2.1
  unfold TiS at h ⊢
  simp only [e1, e3]
  exact h
theorem cpA_C {n p q : Nat} {B : StB} {R : Nat → Int32} (tA : TiA n B q R) (h01 : ∀ i, i < n → R (15 + 4 * i) = 0 ∨ R (15 + 4 * i) = 1) (hpq : q + 16 ≤ p ∨ p + 16 ≤ q) : ok_X0_copyFrom (p + 1) (q + 1) B ∧ Fg (p + 1) (p + 6) B (f_X0_copyFrom (p + 1) (q + 1) B) ∧ TiA n (f_X0_copyFrom (p + 1) (q + 1) B) p R := by
  have hn : n ≤ 8 := tA.2.2.1
  have z0 : Int32.ofNat 0 = 0 := rfl
  have hfu : 12 < fu := by unfold fu; omega
  have cA : bi (sbi B (p + 1) 0 (bi B (q + 1) 0)) (p + 1) 0 = Int32.ofNat n := by
    rw [bi_sbi, if_pos ⟨rfl, rfl⟩]
    exact tA.1
  have A := L_cpA tA h01 hpq n fu 0 (sbi B (p + 1) 0 (bi B (q + 1) 0)) (by omega) (by omega) cA (Fg_i (Fg_r _ _ B) _ _ (by omega) (by omega)) (fun j hj => by omega)
  clear hfu
  rw [z0] at A
  have eA : f_X0_copyFrom (p + 1) (q + 1) B = f_X0_copyFrom_L10 fu (p + 1) (q + 1) (sbi B (p + 1) 0 (bi B (q + 1) 0)) 0 := by
    unfold f_X0_copyFrom
    rw [nm_eq, nm_eq]
  rw [eA]
  refine ⟨?_, A.2.2.1, A.2.1, tA.2.1, hn, fun i hi => (A.2.2.2 i hi).1, fun i hi => (A.2.2.2 i hi).2.1, fun i hi => (A.2.2.2 i hi).2.2.1, fun i hi => (A.2.2.2 i hi).2.2.2⟩
  rintro _ rfl
  exact A.1
theorem cpT_C {t p q : Nat} {B : StB} {R : Nat → Int32} (tT : TiT 0 0 0 t B q R) (hpq : q + 16 ≤ p ∨ p + 16 ≤ q) : ok_X5_copyFrom (p + 6) (q + 6) B ∧ Fg (p + 6) (p + 12) B (f_X5_copyFrom (p + 6) (q + 6) B) ∧ TiT 0 0 0 t (f_X5_copyFrom (p + 6) (q + 6) B) p R := by
  obtain ⟨t0, t1, t2, t3, t4, t5, t6, t7, t8⟩ := tT
  have z0 : Int32.ofNat 0 = 0 := rfl
  have hfu : 12 < fu := by unfold fu; omega
  have cT : bi (sbi (sbi B (p + 6) 0 (bi B (q + 6) 0)) (p + 6) 1 (bi (sbi B (p + 6) 0 (bi B (q + 6) 0)) (q + 6) 1)) (p + 6) 0 = Int32.ofNat t := by
    rw [bi_sbi, if_neg (by omega), bi_sbi, if_pos ⟨rfl, rfl⟩]
    exact t0
  have cT1 : bi (sbi (sbi B (p + 6) 0 (bi B (q + 6) 0)) (p + 6) 1 (bi (sbi B (p + 6) 0 (bi B (q + 6) 0)) (q + 6) 1)) (p + 6) 1 = R 2 := by
    rw [bi_sbi, if_pos ⟨rfl, rfl⟩, bi_sbi, if_neg (by omega)]
    exact t6
  have A := L_cpT (B0 := B) (R := R) t2 (fun k hk => by simpa only [Nat.zero_add] using t8 k (by omega)) hpq t fu 0 (sbi (sbi B (p + 6) 0 (bi B (q + 6) 0)) (p + 6) 1 (bi (sbi B (p + 6) 0 (bi B (q + 6) 0)) (q + 6) 1)) (by omega) (by omega) cT (Fg_i (Fg_i (Fg_r _ _ B) _ _ (by omega) (by omega)) _ _ (by omega) (by omega)) (fun j hj => by omega)
  clear hfu
  rw [z0] at A
  have eA : f_X5_copyFrom (p + 6) (q + 6) B = f_X5_copyFrom_L18 fu (p + 6) (q + 6) (sbi (sbi B (p + 6) 0 (bi B (q + 6) 0)) (p + 6) 1 (bi (sbi B (p + 6) 0 (bi B (q + 6) 0)) (q + 6) 1)) 0 := by
    unfold f_X5_copyFrom
    rw [nm_eq, nm_eq, nm_eq]
  rw [eA]
  refine ⟨?_, A.2.2.1, (A.2.1 0).trans cT, t1, t2, t3, t4, t5, (A.2.1 1).trans cT1, fun k hk => by omega, fun k hk => by simpa only [Nat.zero_add] using A.2.2.2 k (by omega)⟩
  rintro _ rfl
  rintro _ rfl
  exact A.1
theorem cpJ_C {p q : Nat} {B : StB} {R : Nat → Int32} (tJ : TiJ B q R) (hpq : q + 16 ≤ p ∨ p + 16 ≤ q) : ok_X2_copyFrom (p + 12) (q + 12) B ∧ Fg (p + 12) (p + 16) B (f_X2_copyFrom (p + 12) (q + 12) B) ∧ TiJ (f_X2_copyFrom (p + 12) (q + 12) B) p R := by
  obtain ⟨L, w, j0, j1, j2, j3, j4, j8, j5, j6, j7⟩ := tJ
  have z0 : Int32.ofNat 0 = 0 := rfl
  have hfu : 12 < fu := by unfold fu; omega
  have c0 : bi (sbi (sbi B (p + 12) 0 (bi B (q + 12) 0)) (p + 12) 1 (bi (sbi B (p + 12) 0 (bi B (q + 12) 0)) (q + 12) 1)) (p + 12) 0 = Int32.ofNat L := by
    rw [bi_sbi, if_neg (by omega), bi_sbi, if_pos ⟨rfl, rfl⟩]
    exact j0
  have c1 : bi (sbi (sbi B (p + 12) 0 (bi B (q + 12) 0)) (p + 12) 1 (bi (sbi B (p + 12) 0 (bi B (q + 12) 0)) (q + 12) 1)) (p + 12) 1 = Int32.ofNat w := by
    rw [bi_sbi, if_pos ⟨rfl, rfl⟩, bi_sbi, if_neg (by omega)]
    exact j3
  have A := L_cpJ (B0 := B) hpq 10 fu 0 (sbi (sbi B (p + 12) 0 (bi B (q + 12) 0)) (p + 12) 1 (bi (sbi B (p + 12) 0 (bi B (q + 12) 0)) (q + 12) 1)) (by omega) (by omega) (Fg_i (Fg_i (Fg_r _ _ B) _ _ (by omega) (by omega)) _ _ (by omega) (by omega)) (fun j hj => by omega)
  clear hfu
  rw [z0] at A
  have eA : f_X2_copyFrom (p + 12) (q + 12) B = f_X2_copyFrom_L18 fu (p + 12) (q + 12) (sbi (sbi B (p + 12) 0 (bi B (q + 12) 0)) (p + 12) 1 (bi (sbi B (p + 12) 0 (bi B (q + 12) 0)) (q + 12) 1)) 0 := by
    unfold f_X2_copyFrom
    rw [nm_eq, nm_eq, nm_eq]
  rw [eA]
  refine ⟨?_, A.2.2.1, L, w, (A.2.1 0).trans c0, j1, j2, (A.2.1 1).trans c1, j4, j8, fun r hr => ?_, fun r hr => ?_, fun r hr => ?_⟩
  · rintro _ rfl
    rintro _ rfl
    exact A.1
  · rw [(A.2.2.2 _ (Nat.mod_lt _ (by decide))).1, j5 r hr]
    exact vnjk (j8 r hr)
  · rw [(A.2.2.2 _ (Nat.mod_lt _ (by decide))).2.1, j6 r hr]
  · rw [(A.2.2.2 _ (Nat.mod_lt _ (by decide))).2.2, j7 r hr]
def cS8 (B : StB) (p q : Nat) : StB := sbl (sbl (sbl (sbl (sbl (sbi (sbi (sbi B p 3 (bi B q 3)) p 4 (bi B q 4)) p 5 (bi B q 5)) p 6 (bl B q 6)) p 7 (bl B q 7)) p 8 (bl B q 8)) p 9 (bl B q 9)) p 10 (bl B q 10)
theorem copy_C {n t a p q : Nat} {B : StB} {R : Nat → Int32} (hT : Ti 0 n 0 0 t B q R) (hA : bA n t a R) (hpq : q + 16 ≤ p ∨ p + 16 ≤ q) : ok_X3_copyFrom p q B ∧ Fr p B (f_X3_copyFrom p q B) ∧ Ti 0 n 0 0 t (f_X3_copyFrom p q B) p R := by
  obtain ⟨tA, tT, tJ, tS⟩ := hT
  obtain ⟨a1, a2, a3⟩ := cpA_C (p := p) tA (fun i hi => (bA_at hA hi).2.2.1) hpq
  have tT1 := TiT_Fg tT a2 (by omega)
  have tJ1 := TiJ_Fg tJ a2 (by omega)
  have tS1 := TiS_Fg tS a2 (by omega)
  obtain ⟨b1, b2, b3⟩ := cpT_C (p := p) tT1 hpq
  have tA2 := TiA_Fg a3 b2 (by omega)
  have tJ2 := TiJ_Fg tJ1 b2 (by omega)
  have tS2 := TiS_Fg tS1 b2 (by omega)
  obtain ⟨c1, c2, c3⟩ := cpJ_C (p := p) tJ2 hpq
  have tA3 := TiA_Fg tA2 c2 (by omega)
  have tT3 := TiT_Fg b3 c2 (by omega)
  have tS3 := TiS_Fg tS2 c2 (by omega)
  have n1' : (q = p) = False := eq_false (by omega)
  have ef : f_X3_copyFrom p q B = cS8 (f_X2_copyFrom (p + 12) (q + 12) (f_X5_copyFrom (p + 6) (q + 6) (f_X0_copyFrom (p + 1) (q + 1) B))) p q := by
    unfold f_X3_copyFrom
    generalize f_X0_copyFrom (p + 1) (q + 1) B = X1
    rw [nm_eq]
    generalize f_X5_copyFrom (p + 6) (q + 6) X1 = X2
    rw [nm_eq]
    generalize f_X2_copyFrom (p + 12) (q + 12) X2 = X3
    simp only [nm_eq, bi_sbi, bi_sbl, bl_sbi, bl_sbl, n1', false_and, if_false]
    rfl
  refine ⟨⟨a1, ?_⟩, ?_, ?_⟩
  · rintro _ rfl
    refine ⟨b1, ?_⟩
    rintro _ rfl
    exact c1
  · rw [ef]
    have w1 : Fg p (p + 16) B (f_X2_copyFrom (p + 12) (q + 12) (f_X5_copyFrom (p + 6) (q + 6) (f_X0_copyFrom (p + 1) (q + 1) B))) := Fg_t (Fg_t (Fg_w a2 (by omega) (by omega)) (Fg_w b2 (by omega) (by omega))) (Fg_w c2 (by omega) (by omega))
    exact Fr_l0 (Fr_l0 (Fr_l0 (Fr_l0 (Fr_l0 (Fr_i0 (Fr_i0 (Fr_i0 w1 _ _) _ _) _ _) _ _) _ _) _ _) _ _) _ _
  · rw [ef]
    generalize f_X2_copyFrom (p + 12) (q + 12) (f_X5_copyFrom (p + 6) (q + 6) (f_X0_copyFrom (p + 1) (q + 1) B)) = X3 at tA3 tT3 c3 tS3
    have g : Fg p (p + 1) X3 (cS8 X3 p q) := Fg_l (Fg_l (Fg_l (Fg_l (Fg_l (Fg_i (Fg_i (Fg_i (Fg_r _ _ X3) _ _ (by omega) (by omega)) _ _ (by omega) (by omega)) _ _ (by omega) (by omega)) _ _ (by omega) (by omega)) _ _ (by omega) (by omega)) _ _ (by omega) (by omega)) _ _ (by omega) (by omega)) _ _ (by omega) (by omega)
    refine ⟨TiA_Fg tA3 g (by omega), TiT_Fg tT3 g (by omega), TiJ_Fg c3 g (by omega), ?_⟩
    unfold TiS at tS3 ⊢
    simp only [cS8, bi_sbi, bi_sbl, bl_sbl, bl_sbi, n1', false_and, if_false]
    simpa using tS3
