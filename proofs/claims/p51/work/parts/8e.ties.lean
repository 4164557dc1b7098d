/-! the pure part: a ledger of the class tied to a row of the model -/
def TiA (n : Nat) (B : StB) (p : Nat) (R : Nat → Int32) : Prop := bi B (p + 1) 0 = Int32.ofNat n ∧ R 1 = Int32.ofNat n ∧ n ≤ 8 ∧ (∀ i, i < n → ba B (p + 2) i = R (12 + 4 * i)) ∧ (∀ i, i < n → ba B (p + 3) i = R (13 + 4 * i)) ∧ (∀ i, i < n → ba B (p + 4) i = R (14 + 4 * i)) ∧ (∀ i, i < n → ba B (p + 5) i = R (15 + 4 * i))
/-- s: the slot that is looked at, kp: those that were kept, c: the class's count -/
def TiT (f s kp c : Nat) (B : StB) (p : Nat) (R : Nat → Int32) : Prop := bi B (p + 6) 0 = Int32.ofNat c ∧ R 3 = Int32.ofNat (c - s + kp) ∧ c ≤ 10 ∧ f ≤ kp ∧ kp ≤ s ∧ s ≤ c ∧ bi B (p + 6) 1 = R 2 ∧ (∀ k, k < f → ba B (p + 7) k = R (44 + 5 * k) ∧ ba B (p + 8) k = R (45 + 5 * k) ∧ ba B (p + 9) k = R (46 + 5 * k) ∧ ba B (p + 10) k = R (47 + 5 * k) ∧ ba B (p + 11) k = R (48 + 5 * k)) ∧ (∀ k, s + k < c → ba B (p + 7) (s + k) = R (44 + 5 * (kp + k)) ∧ ba B (p + 8) (s + k) = R (45 + 5 * (kp + k)) ∧ ba B (p + 9) (s + k) = R (46 + 5 * (kp + k)) ∧ ba B (p + 10) (s + k) = R (47 + 5 * (kp + k)) ∧ ba B (p + 11) (s + k) = R (48 + 5 * (kp + k)))
def TiJ (B : StB) (p : Nat) (R : Nat → Int32) : Prop := ∃ L w, bi B (p + 12) 0 = Int32.ofNat L ∧ R 11 = Int32.ofNat L ∧ L ≤ 10 ∧ bi B (p + 12) 1 = Int32.ofNat w ∧ w < 10 ∧ (∀ r, r < L → jk (R (94 + 3 * r))) ∧ (∀ r, r < L → ba B (p + 13) ((w + 10 - r) % 10) = R (94 + 3 * r)) ∧ (∀ r, r < L → ba B (p + 14) ((w + 10 - r) % 10) = R (95 + 3 * r)) ∧ (∀ r, r < L → ba B (p + 15) ((w + 10 - r) % 10) = R (96 + 3 * r))
def TiS (B : StB) (p : Nat) (R : Nat → Int32) : Prop := bi B p 3 = R 0 ∧ bi B p 4 = R 4 ∧ bi B p 5 = R 10 ∧ bl B p 6 = (R 5).toInt64 ∧ bl B p 7 = (R 6).toInt64 ∧ bl B p 8 = (R 7).toInt64 ∧ bl B p 9 = (R 8).toInt64 ∧ bl B p 10 = (R 9).toInt64
def Ti (f n s kp c : Nat) (B : StB) (p : Nat) (R : Nat → Int32) : Prop := TiA n B p R ∧ TiT f s kp c B p R ∧ TiJ B p R ∧ TiS B p R
/-- nothing but the ledger at p has changed -/
def Fr (p : Nat) (B B' : StB) : Prop := bz B' = bz B ∧ ∀ q k, (q < p ∨ p + 16 ≤ q) → bi B' q k = bi B q k ∧ bl B' q k = bl B q k ∧ ba B' q k = ba B q k
theorem Fr_r (p : Nat) (B : StB) : Fr p B B := ⟨rfl, fun _ _ _ => ⟨rfl, rfl, rfl⟩⟩
theorem Fr_t {p : Nat} {B C D : StB} (h : Fr p B C) (h2 : Fr p C D) : Fr p B D := ⟨h2.1.trans h.1, fun q k hq => ⟨(h2.2 q k hq).1.trans (h.2 q k hq).1, (h2.2 q k hq).2.1.trans (h.2 q k hq).2.1, (h2.2 q k hq).2.2.trans (h.2 q k hq).2.2⟩⟩
theorem Fr_i {p : Nat} {B C : StB} (h : Fr p B C) (d k : Nat) (v : Int32) (hd : d < 16) : Fr p B (sbi C (p + d) k v) := ⟨h.1, fun q j hq => by
  refine ⟨?_, (h.2 q j hq).2⟩
  rw [bi_sbi, if_neg (by omega)]
  exact (h.2 q j hq).1⟩
theorem Fr_i0 {p : Nat} {B C : StB} (h : Fr p B C) (k : Nat) (v : Int32) : Fr p B (sbi C p k v) := Fr_i h 0 k v (by decide)
theorem Fr_l0 {p : Nat} {B C : StB} (h : Fr p B C) (k : Nat) (v : Int64) : Fr p B (sbl C p k v) := ⟨h.1, fun q j hq => by
  refine ⟨(h.2 q j hq).1, ?_, (h.2 q j hq).2.2⟩
  rw [bl_sbl, if_neg (by omega)]
  exact (h.2 q j hq).2.1⟩
theorem Fr_a {p : Nat} {B C : StB} (h : Fr p B C) (d k : Nat) (v : Int32) (hd : d < 16) : Fr p B (sba C (p + d) k v) := ⟨h.1, fun q j hq => by
  refine ⟨(h.2 q j hq).1, (h.2 q j hq).2.1, ?_⟩
  rw [ba_sba, if_neg (by omega)]
  exact (h.2 q j hq).2.2⟩
/-- a ledger elsewhere is as it was -/
theorem Ti_Fr {f n s kp c p q : Nat} {B C : StB} {R : Nat → Int32} (h : Ti f n s kp c B q R) (g : Fr p B C) (hq : q + 16 ≤ p ∨ p + 16 ≤ q) : Ti f n s kp c C q R := by
  have e1 : ∀ d k, d < 16 → bi C (q + d) k = bi B (q + d) k := fun d k hd => (g.2 (q + d) k (by omega)).1
  have e2 : ∀ d k, d < 16 → ba C (q + d) k = ba B (q + d) k := fun d k hd => (g.2 (q + d) k (by omega)).2.2
  have e3 : ∀ k, bl C q k = bl B q k := fun k => (g.2 q k (by omega)).2.1
  have e4 : ∀ k, bi C q k = bi B q k := fun k => (g.2 q k (by omega)).1
  simp (disch := decide) only [Ti, TiA, TiT, TiJ, TiS, e1, e2, e3, e4] at h ⊢
  exact h

theorem Ti_bal0 {f n s kp c p : Nat} {B : StB} {R : Nat → Int32} {i : Nat} (v : Int32) (h : Ti f n s kp c B p R) (hi : i < 8) : Ti f n s kp c (sba B (p + 3) i v) p (ur R (13 + 4 * i) v) := by
  obtain ⟨hA, hT, hJ, hS⟩ := h
  refine ⟨?_, ?_, ?_, ?_⟩
  · simp only [TiA, bi_sbi, bi_sba, bi_sbl, ba_sbi, ba_sba, ba_sbl, bl_sbi, bl_sba, bl_sbl, ur_ap] at hA ⊢
    grind
  · obtain ⟨t0, t1, t2, t3, t4, t5, t6, t7, t8⟩ := hT
    have hu : ∀ q, 44 ≤ q → (ur R (13 + 4 * i) v) q = R q := fun q hq => ur_ne _ _ (by omega)
    have hu2 : ∀ q, q < 12 → (ur R (13 + 4 * i) v) q = R q := fun q hq => ur_ne _ _ (by omega)
    have ha : ∀ d k, d ≠ 3 → ba (sba B (p + 3) i v) (p + d) k = ba B (p + d) k := fun d k hd => by rw [ba_sba, if_neg (by omega)]
    refine ⟨t0, by rw [hu2 3 (by omega)]; exact t1, t2, t3, t4, t5, by rw [hu2 2 (by omega)]; exact t6, fun k hk => ?_, fun k hk => ?_⟩
    · simp (disch := omega) only [hu, ha]
      exact t7 k hk
    · simp (disch := omega) only [hu, ha]
      exact t8 k hk
  · obtain ⟨L, w, hJ⟩ := hJ
    refine ⟨L, w, ?_⟩
    simp only [bi_sbi, bi_sba, bi_sbl, ba_sbi, ba_sba, ba_sbl, bl_sbi, bl_sba, bl_sbl, ur_ap] at hJ ⊢
    grind
  · simp only [TiS, bi_sbi, bi_sba, bi_sbl, ba_sbi, ba_sba, ba_sbl, bl_sbi, bl_sba, bl_sbl, ur_ap] at hS ⊢
    grind
theorem Ti_lim0 {f n s kp c p : Nat} {B : StB} {R : Nat → Int32} {i : Nat} (v : Int32) (h : Ti f n s kp c B p R) (hi : i < 8) : Ti f n s kp c (sba B (p + 4) i v) p (ur R (14 + 4 * i) v) := by
  obtain ⟨hA, hT, hJ, hS⟩ := h
  refine ⟨?_, ?_, ?_, ?_⟩
  · simp only [TiA, bi_sbi, bi_sba, bi_sbl, ba_sbi, ba_sba, ba_sbl, bl_sbi, bl_sba, bl_sbl, ur_ap] at hA ⊢
    grind
  · obtain ⟨t0, t1, t2, t3, t4, t5, t6, t7, t8⟩ := hT
    have hu : ∀ q, 44 ≤ q → (ur R (14 + 4 * i) v) q = R q := fun q hq => ur_ne _ _ (by omega)
    have hu2 : ∀ q, q < 12 → (ur R (14 + 4 * i) v) q = R q := fun q hq => ur_ne _ _ (by omega)
    have ha : ∀ d k, d ≠ 4 → ba (sba B (p + 4) i v) (p + d) k = ba B (p + d) k := fun d k hd => by rw [ba_sba, if_neg (by omega)]
    refine ⟨t0, by rw [hu2 3 (by omega)]; exact t1, t2, t3, t4, t5, by rw [hu2 2 (by omega)]; exact t6, fun k hk => ?_, fun k hk => ?_⟩
    · simp (disch := omega) only [hu, ha]
      exact t7 k hk
    · simp (disch := omega) only [hu, ha]
      exact t8 k hk
  · obtain ⟨L, w, hJ⟩ := hJ
    refine ⟨L, w, ?_⟩
    simp only [bi_sbi, bi_sba, bi_sbl, ba_sbi, ba_sba, ba_sbl, bl_sbi, bl_sba, bl_sbl, ur_ap] at hJ ⊢
    grind
  · simp only [TiS, bi_sbi, bi_sba, bi_sbl, ba_sbi, ba_sba, ba_sbl, bl_sbi, bl_sba, bl_sbl, ur_ap] at hS ⊢
    grind
theorem Ti_tch0 {f n s kp c p : Nat} {B : StB} {R : Nat → Int32} {i : Nat} (v : Int32) (h : Ti f n s kp c B p R) (hi : i < 8) : Ti f n s kp c (sba B (p + 5) i v) p (ur R (15 + 4 * i) v) := by
  obtain ⟨hA, hT, hJ, hS⟩ := h
  refine ⟨?_, ?_, ?_, ?_⟩
  · simp only [TiA, bi_sbi, bi_sba, bi_sbl, ba_sbi, ba_sba, ba_sbl, bl_sbi, bl_sba, bl_sbl, ur_ap] at hA ⊢
    grind
  · obtain ⟨t0, t1, t2, t3, t4, t5, t6, t7, t8⟩ := hT
    have hu : ∀ q, 44 ≤ q → (ur R (15 + 4 * i) v) q = R q := fun q hq => ur_ne _ _ (by omega)
    have hu2 : ∀ q, q < 12 → (ur R (15 + 4 * i) v) q = R q := fun q hq => ur_ne _ _ (by omega)
    have ha : ∀ d k, d ≠ 5 → ba (sba B (p + 5) i v) (p + d) k = ba B (p + d) k := fun d k hd => by rw [ba_sba, if_neg (by omega)]
    refine ⟨t0, by rw [hu2 3 (by omega)]; exact t1, t2, t3, t4, t5, by rw [hu2 2 (by omega)]; exact t6, fun k hk => ?_, fun k hk => ?_⟩
    · simp (disch := omega) only [hu, ha]
      exact t7 k hk
    · simp (disch := omega) only [hu, ha]
      exact t8 k hk
  · obtain ⟨L, w, hJ⟩ := hJ
    refine ⟨L, w, ?_⟩
    simp only [bi_sbi, bi_sba, bi_sbl, ba_sbi, ba_sba, ba_sbl, bl_sbi, bl_sba, bl_sbl, ur_ap] at hJ ⊢
    grind
  · simp only [TiS, bi_sbi, bi_sba, bi_sbl, ba_sbi, ba_sba, ba_sbl, bl_sbi, bl_sba, bl_sbl, ur_ap] at hS ⊢
    grind
theorem Ti_day0 {f n s kp c p : Nat} {B : StB} {R : Nat → Int32} (v : Int32) (h : Ti f n s kp c B p R)  : Ti f n s kp c (sbi B p 3 v) p (ur R 0 v) := by
  obtain ⟨hA, hT, hJ, hS⟩ := h
  refine ⟨?_, ?_, ?_, ?_⟩
  · simp only [TiA, bi_sbi, bi_sba, bi_sbl, ba_sbi, ba_sba, ba_sbl, bl_sbi, bl_sba, bl_sbl, ur_ap] at hA ⊢
    grind
  · simp only [TiT, bi_sbi, bi_sba, bi_sbl, ba_sbi, ba_sba, ba_sbl, bl_sbi, bl_sba, bl_sbl, ur_ap] at hT ⊢
    grind
  · obtain ⟨L, w, hJ⟩ := hJ
    refine ⟨L, w, ?_⟩
    simp only [bi_sbi, bi_sba, bi_sbl, ba_sbi, ba_sba, ba_sbl, bl_sbi, bl_sba, bl_sbl, ur_ap] at hJ ⊢
    grind
  · simp only [TiS, bi_sbi, bi_sba, bi_sbl, ba_sbi, ba_sba, ba_sbl, bl_sbi, bl_sba, bl_sbl, ur_ap] at hS ⊢
    grind
theorem Ti_bnk0 {f n s kp c p : Nat} {B : StB} {R : Nat → Int32} (v : Int32) (h : Ti f n s kp c B p R)  : Ti f n s kp c (sbi B p 4 v) p (ur R 4 v) := by
  obtain ⟨hA, hT, hJ, hS⟩ := h
  refine ⟨?_, ?_, ?_, ?_⟩
  · simp only [TiA, bi_sbi, bi_sba, bi_sbl, ba_sbi, ba_sba, ba_sbl, bl_sbi, bl_sba, bl_sbl, ur_ap] at hA ⊢
    grind
  · simp only [TiT, bi_sbi, bi_sba, bi_sbl, ba_sbi, ba_sba, ba_sbl, bl_sbi, bl_sba, bl_sbl, ur_ap] at hT ⊢
    grind
  · obtain ⟨L, w, hJ⟩ := hJ
    refine ⟨L, w, ?_⟩
    simp only [bi_sbi, bi_sba, bi_sbl, ba_sbi, ba_sba, ba_sbl, bl_sbi, bl_sba, bl_sbl, ur_ap] at hJ ⊢
    grind
  · simp only [TiS, bi_sbi, bi_sba, bi_sbl, ba_sbi, ba_sba, ba_sbl, bl_sbi, bl_sba, bl_sbl, ur_ap] at hS ⊢
    grind
theorem Ti_bnc0 {f n s kp c p : Nat} {B : StB} {R : Nat → Int32} (v : Int32) (h : Ti f n s kp c B p R)  : Ti f n s kp c (sbi B p 5 v) p (ur R 10 v) := by
  obtain ⟨hA, hT, hJ, hS⟩ := h
  refine ⟨?_, ?_, ?_, ?_⟩
  · simp only [TiA, bi_sbi, bi_sba, bi_sbl, ba_sbi, ba_sba, ba_sbl, bl_sbi, bl_sba, bl_sbl, ur_ap] at hA ⊢
    grind
  · simp only [TiT, bi_sbi, bi_sba, bi_sbl, ba_sbi, ba_sba, ba_sbl, bl_sbi, bl_sba, bl_sbl, ur_ap] at hT ⊢
    grind
  · obtain ⟨L, w, hJ⟩ := hJ
    refine ⟨L, w, ?_⟩
    simp only [bi_sbi, bi_sba, bi_sbl, ba_sbi, ba_sba, ba_sbl, bl_sbi, bl_sba, bl_sbl, ur_ap] at hJ ⊢
    grind
  · simp only [TiS, bi_sbi, bi_sba, bi_sbl, ba_sbi, ba_sba, ba_sbl, bl_sbi, bl_sba, bl_sbl, ur_ap] at hS ⊢
    grind
theorem Ti_dep0 {f n s kp c p : Nat} {B : StB} {R : Nat → Int32} (v : Int32) (h : Ti f n s kp c B p R)  : Ti f n s kp c (sbl B p 6 v.toInt64) p (ur R 5 v) := by
  obtain ⟨hA, hT, hJ, hS⟩ := h
  refine ⟨?_, ?_, ?_, ?_⟩
  · simp only [TiA, bi_sbi, bi_sba, bi_sbl, ba_sbi, ba_sba, ba_sbl, bl_sbi, bl_sba, bl_sbl, ur_ap] at hA ⊢
    grind
  · simp only [TiT, bi_sbi, bi_sba, bi_sbl, ba_sbi, ba_sba, ba_sbl, bl_sbi, bl_sba, bl_sbl, ur_ap] at hT ⊢
    grind
  · obtain ⟨L, w, hJ⟩ := hJ
    refine ⟨L, w, ?_⟩
    simp only [bi_sbi, bi_sba, bi_sbl, ba_sbi, ba_sba, ba_sbl, bl_sbi, bl_sba, bl_sbl, ur_ap] at hJ ⊢
    grind
  · simp only [TiS, bi_sbi, bi_sba, bi_sbl, ba_sbi, ba_sba, ba_sbl, bl_sbi, bl_sba, bl_sbl, ur_ap] at hS ⊢
    grind
theorem Ti_wdr0 {f n s kp c p : Nat} {B : StB} {R : Nat → Int32} (v : Int32) (h : Ti f n s kp c B p R)  : Ti f n s kp c (sbl B p 7 v.toInt64) p (ur R 6 v) := by
  obtain ⟨hA, hT, hJ, hS⟩ := h
  refine ⟨?_, ?_, ?_, ?_⟩
  · simp only [TiA, bi_sbi, bi_sba, bi_sbl, ba_sbi, ba_sba, ba_sbl, bl_sbi, bl_sba, bl_sbl, ur_ap] at hA ⊢
    grind
  · simp only [TiT, bi_sbi, bi_sba, bi_sbl, ba_sbi, ba_sba, ba_sbl, bl_sbi, bl_sba, bl_sbl, ur_ap] at hT ⊢
    grind
  · obtain ⟨L, w, hJ⟩ := hJ
    refine ⟨L, w, ?_⟩
    simp only [bi_sbi, bi_sba, bi_sbl, ba_sbi, ba_sba, ba_sbl, bl_sbi, bl_sba, bl_sbl, ur_ap] at hJ ⊢
    grind
  · simp only [TiS, bi_sbi, bi_sba, bi_sbl, ba_sbi, ba_sba, ba_sbl, bl_sbi, bl_sba, bl_sbl, ur_ap] at hS ⊢
    grind
theorem Ti_trf0 {f n s kp c p : Nat} {B : StB} {R : Nat → Int32} (v : Int32) (h : Ti f n s kp c B p R)  : Ti f n s kp c (sbl B p 8 v.toInt64) p (ur R 7 v) := by
  obtain ⟨hA, hT, hJ, hS⟩ := h
  refine ⟨?_, ?_, ?_, ?_⟩
  · simp only [TiA, bi_sbi, bi_sba, bi_sbl, ba_sbi, ba_sba, ba_sbl, bl_sbi, bl_sba, bl_sbl, ur_ap] at hA ⊢
    grind
  · simp only [TiT, bi_sbi, bi_sba, bi_sbl, ba_sbi, ba_sba, ba_sbl, bl_sbi, bl_sba, bl_sbl, ur_ap] at hT ⊢
    grind
  · obtain ⟨L, w, hJ⟩ := hJ
    refine ⟨L, w, ?_⟩
    simp only [bi_sbi, bi_sba, bi_sbl, ba_sbi, ba_sba, ba_sbl, bl_sbi, bl_sba, bl_sbl, ur_ap] at hJ ⊢
    grind
  · simp only [TiS, bi_sbi, bi_sba, bi_sbl, ba_sbi, ba_sba, ba_sbl, bl_sbi, bl_sba, bl_sbl, ur_ap] at hS ⊢
    grind
theorem Ti_int0 {f n s kp c p : Nat} {B : StB} {R : Nat → Int32} (v : Int32) (h : Ti f n s kp c B p R)  : Ti f n s kp c (sbl B p 9 v.toInt64) p (ur R 8 v) := by
  obtain ⟨hA, hT, hJ, hS⟩ := h
  refine ⟨?_, ?_, ?_, ?_⟩
  · simp only [TiA, bi_sbi, bi_sba, bi_sbl, ba_sbi, ba_sba, ba_sbl, bl_sbi, bl_sba, bl_sbl, ur_ap] at hA ⊢
    grind
  · simp only [TiT, bi_sbi, bi_sba, bi_sbl, ba_sbi, ba_sba, ba_sbl, bl_sbi, bl_sba, bl_sbl, ur_ap] at hT ⊢
    grind
  · obtain ⟨L, w, hJ⟩ := hJ
    refine ⟨L, w, ?_⟩
    simp only [bi_sbi, bi_sba, bi_sbl, ba_sbi, ba_sba, ba_sbl, bl_sbi, bl_sba, bl_sbl, ur_ap] at hJ ⊢
    grind
  · simp only [TiS, bi_sbi, bi_sba, bi_sbl, ba_sbi, ba_sba, ba_sbl, bl_sbi, bl_sba, bl_sbl, ur_ap] at hS ⊢
    grind
theorem Ti_chg0 {f n s kp c p : Nat} {B : StB} {R : Nat → Int32} (v : Int32) (h : Ti f n s kp c B p R)  : Ti f n s kp c (sbl B p 10 v.toInt64) p (ur R 9 v) := by
  obtain ⟨hA, hT, hJ, hS⟩ := h
  refine ⟨?_, ?_, ?_, ?_⟩
  · simp only [TiA, bi_sbi, bi_sba, bi_sbl, ba_sbi, ba_sba, ba_sbl, bl_sbi, bl_sba, bl_sbl, ur_ap] at hA ⊢
    grind
  · simp only [TiT, bi_sbi, bi_sba, bi_sbl, ba_sbi, ba_sba, ba_sbl, bl_sbi, bl_sba, bl_sbl, ur_ap] at hT ⊢
    grind
  · obtain ⟨L, w, hJ⟩ := hJ
    refine ⟨L, w, ?_⟩
    simp only [bi_sbi, bi_sba, bi_sbl, ba_sbi, ba_sba, ba_sbl, bl_sbi, bl_sba, bl_sbl, ur_ap] at hJ ⊢
    grind
  · simp only [TiS, bi_sbi, bi_sba, bi_sbl, ba_sbi, ba_sba, ba_sbl, bl_sbi, bl_sba, bl_sbl, ur_ap] at hS ⊢
    grind
