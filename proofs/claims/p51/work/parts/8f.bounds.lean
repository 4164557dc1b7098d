/-! the pure part: what holds of a row of the model -/
def bA (n t a : Nat) (R : Nat → Int32) : Prop := n ≤ 8 ∧ R 1 = Int32.ofNat n ∧ ∀ i, i < n → 0 ≤ (R (12 + 4 * i)).toInt ∧ (R (12 + 4 * i)).toInt ≤ 3 ∧ (R (15 + 4 * i) = 0 ∨ R (15 + 4 * i) = 1) ∧ 0 ≤ (R (14 + 4 * i)).toInt ∧ (R (14 + 4 * i)).toInt ≤ 500 ∧ ((R (12 + 4 * i)).toInt % 2 = 1 → (R (14 + 4 * i)).toInt = 0) ∧ -(R (14 + 4 * i)).toInt ≤ (R (13 + 4 * i)).toInt ∧ (R (13 + 4 * i)).toInt + 999 * (t : Int) ≤ 9999 + 999 * (R 2).toInt + 495 * (R 0).toInt + (if i < a then 495 else 0)
def bT (n t m : Nat) (R : Nat → Int32) : Prop := t ≤ 10 ∧ R 3 = Int32.ofNat t ∧ (∀ k, k < t → (∃ i, i < n ∧ R (45 + 5 * k) = Int32.ofNat i) ∧ (∃ i, i < n ∧ R (46 + 5 * k) = Int32.ofNat i) ∧ 1 ≤ (R (47 + 5 * k)).toInt ∧ (R (47 + 5 * k)).toInt ≤ 999 ∧ (R 0).toInt ≤ (R (48 + 5 * k)).toInt ∧ (R (48 + 5 * k)).toInt ≤ (R 0).toInt + 60 ∧ 0 ≤ (R (44 + 5 * k)).toInt ∧ (R (44 + 5 * k)).toInt < (R 2).toInt) ∧ (∀ k, k < m → k < t → (R 0).toInt < (R (48 + 5 * k)).toInt) ∧ (∀ j k, j < k → k < t → (R (44 + 5 * j)).toInt < (R (44 + 5 * k)).toInt)
def bS (e D t a : Nat) (R : Nat → Int32) : Prop := e ≤ 600 ∧ D ≤ 37000 ∧ 0 ≤ (R 0).toInt ∧ (R 0).toInt ≤ (D : Int) ∧ (t : Int) ≤ (R 2).toInt ∧ (R 2).toInt ≤ (e : Int) ∧ 0 ≤ (R 5).toInt ∧ (R 5).toInt ≤ 999 * (e : Int) ∧ 0 ≤ (R 6).toInt ∧ (R 6).toInt ≤ 999 * (e : Int) ∧ 0 ≤ (R 7).toInt ∧ (R 7).toInt + 999 * (t : Int) ≤ 999 * (R 2).toInt ∧ 0 ≤ (R 8).toInt ∧ (R 8).toInt ≤ 3960 * (R 0).toInt + 495 * (a : Int) ∧ 0 ≤ (R 9).toInt ∧ (R 9).toInt + 3 * (t : Int) ≤ 3 * (R 2).toInt + 160 * (R 0).toInt + 20 * (a : Int)
def RB (e D n t m a : Nat) (R : Nat → Int32) : Prop := bA n t a R ∧ bT n t m R ∧ bS e D t a R
/-- a ledger of the class and a row of the model, between calls -/
def LR (e : Nat) (B : StB) (p : Nat) (R : Nat → Int32) : Prop := ∃ n t, Ti 0 n 0 0 t B p R ∧ RB e (60 * e) n t 0 0 R
theorem i64sum {a b : Int32} (h1 : -2147483648 ≤ a.toInt + b.toInt) (h2 : a.toInt + b.toInt < 2147483648) : (a + b).toInt64 = a.toInt64 + b.toInt64 := by
  have ha := i32_lo a
  have ha2 := i32_hi a
  have hb := i32_lo b
  have hb2 := i32_hi b
  rw [i64_inj, i64_of, i32_add h1 h2, i64_add (by rw [i64_of, i64_of]; omega) (by rw [i64_of, i64_of]; omega), i64_of, i64_of]
/-! readings -/
theorem Ti_n {f n s kp c p : Nat} {B : StB} {R : Nat → Int32} (h : Ti f n s kp c B p R) : bi B (p + 1) 0 = Int32.ofNat n ∧ R 1 = Int32.ofNat n ∧ n ≤ 8 := ⟨h.1.1, h.1.2.1, h.1.2.2.1⟩
theorem Ti_k {f n s kp c p i : Nat} {B : StB} {R : Nat → Int32} (h : Ti f n s kp c B p R) (hi : i < n) : ba B (p + 2) i = R (12 + 4 * i) := h.1.2.2.2.1 i hi
theorem Ti_b {f n s kp c p i : Nat} {B : StB} {R : Nat → Int32} (h : Ti f n s kp c B p R) (hi : i < n) : ba B (p + 3) i = R (13 + 4 * i) := h.1.2.2.2.2.1 i hi
theorem Ti_l {f n s kp c p i : Nat} {B : StB} {R : Nat → Int32} (h : Ti f n s kp c B p R) (hi : i < n) : ba B (p + 4) i = R (14 + 4 * i) := h.1.2.2.2.2.2.1 i hi
theorem Ti_t {f n s kp c p i : Nat} {B : StB} {R : Nat → Int32} (h : Ti f n s kp c B p R) (hi : i < n) : ba B (p + 5) i = R (15 + 4 * i) := h.1.2.2.2.2.2.2 i hi
theorem Ti_c {f n s kp c p : Nat} {B : StB} {R : Nat → Int32} (h : Ti f n s kp c B p R) : bi B (p + 6) 0 = Int32.ofNat c ∧ R 3 = Int32.ofNat (c - s + kp) ∧ c ≤ 10 ∧ f ≤ kp ∧ kp ≤ s ∧ s ≤ c ∧ bi B (p + 6) 1 = R 2 := ⟨h.2.1.1, h.2.1.2.1, h.2.1.2.2.1, h.2.1.2.2.2.1, h.2.1.2.2.2.2.1, h.2.1.2.2.2.2.2.1, h.2.1.2.2.2.2.2.2.1⟩
/-- slot s + k against place kp + k -/
theorem Ti_p {f n s kp c p k : Nat} {B : StB} {R : Nat → Int32} (h : Ti f n s kp c B p R) (hk : s + k < c) : ba B (p + 7) (s + k) = R (44 + 5 * (kp + k)) ∧ ba B (p + 8) (s + k) = R (45 + 5 * (kp + k)) ∧ ba B (p + 9) (s + k) = R (46 + 5 * (kp + k)) ∧ ba B (p + 10) (s + k) = R (47 + 5 * (kp + k)) ∧ ba B (p + 11) (s + k) = R (48 + 5 * (kp + k)) := h.2.1.2.2.2.2.2.2.2.2 k hk
/-- between calls: slot k against place k -/
theorem Ti_q {n c p k : Nat} {B : StB} {R : Nat → Int32} (h : Ti 0 n 0 0 c B p R) (hk : k < c) : ba B (p + 7) k = R (44 + 5 * k) ∧ ba B (p + 8) k = R (45 + 5 * k) ∧ ba B (p + 9) k = R (46 + 5 * k) ∧ ba B (p + 10) k = R (47 + 5 * k) ∧ ba B (p + 11) k = R (48 + 5 * k) := by
  have := Ti_p h (k := k) (by omega)
  simpa only [Nat.zero_add] using this
theorem Ti_s {f n s kp c p : Nat} {B : StB} {R : Nat → Int32} (h : Ti f n s kp c B p R) : bi B p 3 = R 0 ∧ bi B p 4 = R 4 ∧ bi B p 5 = R 10 ∧ bl B p 6 = (R 5).toInt64 ∧ bl B p 7 = (R 6).toInt64 ∧ bl B p 8 = (R 7).toInt64 ∧ bl B p 9 = (R 8).toInt64 ∧ bl B p 10 = (R 9).toInt64 := h.2.2.2
/-! changes -/
theorem Ti_bal {f n s kp c p i : Nat} {B : StB} {R : Nat → Int32} (d : Int32) (h : Ti f n s kp c B p R) (hi : i < n) : Ti f n s kp c (sba B (p + 3) i (ba B (p + 3) i + d)) p (ur R (13 + 4 * i) (R (13 + 4 * i) + d)) := by
  have := (Ti_n h).2.2
  rw [Ti_b h hi]
  exact Ti_bal0 _ h (by omega)
theorem Ti_bnk {f n s kp c p : Nat} {B : StB} {R : Nat → Int32} (d : Int32) (h : Ti f n s kp c B p R) : Ti f n s kp c (sbi B p 4 (bi B p 4 + d)) p (ur R 4 (R 4 + d)) := by
  rw [(Ti_s h).2.1]
  exact Ti_bnk0 _ h
theorem Ti_bnkm {f n s kp c p : Nat} {B : StB} {R : Nat → Int32} (d : Int32) (h : Ti f n s kp c B p R) : Ti f n s kp c (sbi B p 4 (bi B p 4 - d)) p (ur R 4 (R 4 - d)) := by
  rw [(Ti_s h).2.1]
  exact Ti_bnk0 _ h
theorem Ti_bnc {f n s kp c p : Nat} {B : StB} {R : Nat → Int32} (d : Int32) (h : Ti f n s kp c B p R) : Ti f n s kp c (sbi B p 5 (bi B p 5 + d)) p (ur R 10 (R 10 + d)) := by
  rw [(Ti_s h).2.2.1]
  exact Ti_bnc0 _ h
theorem Ti_day {f n s kp c p : Nat} {B : StB} {R : Nat → Int32} (d : Int32) (h : Ti f n s kp c B p R) : Ti f n s kp c (sbi B p 3 (bi B p 3 + d)) p (ur R 0 (R 0 + d)) := by
  rw [(Ti_s h).1]
  exact Ti_day0 _ h
theorem Ti_dep {f n s kp c p : Nat} {B : StB} {R : Nat → Int32} (d : Int32) (h : Ti f n s kp c B p R) (h1 : -2147483648 ≤ (R 5).toInt + d.toInt) (h2 : (R 5).toInt + d.toInt < 2147483648) : Ti f n s kp c (sbl B p 6 (bl B p 6 + d.toInt64)) p (ur R 5 (R 5 + d)) := by
  rw [(Ti_s h).2.2.2.1, ← i64sum h1 h2]
  exact Ti_dep0 _ h
theorem Ti_wdr {f n s kp c p : Nat} {B : StB} {R : Nat → Int32} (d : Int32) (h : Ti f n s kp c B p R) (h1 : -2147483648 ≤ (R 6).toInt + d.toInt) (h2 : (R 6).toInt + d.toInt < 2147483648) : Ti f n s kp c (sbl B p 7 (bl B p 7 + d.toInt64)) p (ur R 6 (R 6 + d)) := by
  rw [(Ti_s h).2.2.2.2.1, ← i64sum h1 h2]
  exact Ti_wdr0 _ h
theorem Ti_trf {f n s kp c p : Nat} {B : StB} {R : Nat → Int32} (d : Int32) (h : Ti f n s kp c B p R) (h1 : -2147483648 ≤ (R 7).toInt + d.toInt) (h2 : (R 7).toInt + d.toInt < 2147483648) : Ti f n s kp c (sbl B p 8 (bl B p 8 + d.toInt64)) p (ur R 7 (R 7 + d)) := by
  rw [(Ti_s h).2.2.2.2.2.1, ← i64sum h1 h2]
  exact Ti_trf0 _ h
theorem Ti_int {f n s kp c p : Nat} {B : StB} {R : Nat → Int32} (d : Int32) (h : Ti f n s kp c B p R) (h1 : -2147483648 ≤ (R 8).toInt + d.toInt) (h2 : (R 8).toInt + d.toInt < 2147483648) : Ti f n s kp c (sbl B p 9 (bl B p 9 + d.toInt64)) p (ur R 8 (R 8 + d)) := by
  rw [(Ti_s h).2.2.2.2.2.2.1, ← i64sum h1 h2]
  exact Ti_int0 _ h
theorem Ti_chg {f n s kp c p : Nat} {B : StB} {R : Nat → Int32} (d : Int32) (h : Ti f n s kp c B p R) (h1 : -2147483648 ≤ (R 9).toInt + d.toInt) (h2 : (R 9).toInt + d.toInt < 2147483648) : Ti f n s kp c (sbl B p 10 (bl B p 10 + d.toInt64)) p (ur R 9 (R 9 + d)) := by
  rw [(Ti_s h).2.2.2.2.2.2.2, ← i64sum h1 h2]
  exact Ti_chg0 _ h
theorem Ti_tch {f n s kp c p i : Nat} {B : StB} {R : Nat → Int32} {v : Int32} (h : Ti f n s kp c B p R) (hi : i < n) (hv : v = 0 ∨ v = 1) : Ti f n s kp c (sba B (p + 5) i (vp_nar .boolean v)) p (ur R (15 + 4 * i) v) := by
  have := (Ti_n h).2.2
  rw [vn01 hv]
  exact Ti_tch0 _ h (by omega)
/-! a movement -/
theorem fmod10 {w : Nat} (h : w < 10) : f_J9_floorMod_7cf53 (Int32.ofNat w + 1) 10 = Int32.ofNat ((w + 1) % 10) := by
  have : ∀ w : Nat, w < 10 → f_J9_floorMod_7cf53 (Int32.ofNat w + 1) 10 = Int32.ofNat ((w + 1) % 10) := by decide +kernel
  exact this w h
theorem mn10 {L : Nat} (h : L ≤ 10) : mn 10 (Int32.ofNat L + 1) = Int32.ofNat (min (L + 1) 10) := by
  have : ∀ L : Nat, L < 11 → mn 10 (Int32.ofNat L + 1) = Int32.ofNat (min (L + 1) 10) := by decide +kernel
  exact this L (by omega)
theorem mn10' {L : Nat} (h : L ≤ 10) : mn (Int32.ofNat L + 1) 10 = Int32.ofNat (min (L + 1) 10) := by
  have : ∀ L : Nat, L < 11 → mn (Int32.ofNat L + 1) 10 = Int32.ofNat (min (L + 1) 10) := by decide +kernel
  exact this L (by omega)
/-- the class's ledger behind a movement -/
def jwB (B : StB) (p w L : Nat) (k a u : Int32) : StB := sbi (sba (sba (sba (sbi B (p + 12) 1 (Int32.ofNat w)) (p + 13) w k) (p + 14) w a) (p + 15) w u) (p + 12) 0 (Int32.ofNat L)
theorem jadd_B {B : StB} {p w L : Nat} {k a u : Int32} (hk : jk k) (ha : 1 ≤ a) (hw : w < 10) (hL : L ≤ 10) (h0 : bi B (p + 12) 0 = Int32.ofNat L) (h1 : bi B (p + 12) 1 = Int32.ofNat w) : f_X2_add (p + 12) B k a u = jwB B p ((w + 1) % 10) (min (L + 1) 10) k a u ∧ ok_X2_add (p + 12) B k a u := by
  have e13 : p + 12 + 1 = p + 13 := by omega
  have e14 : p + 12 + 2 = p + 14 := by omega
  have e15 : p + 12 + 3 = p + 15 := by omega
  have hx : ix (Int32.ofNat ((w + 1) % 10)) = (w + 1) % 10 := ix_o (by omega)
  have hin : vp_in (Int32.ofNat ((w + 1) % 10)) 10 := in_o (by omega) (by omega)
  refine ⟨?_, ?_⟩
  · unfold f_X2_add
    rw [if_pos ha]
    simp only [nm_eq, h1, fmod10 hw, bi_sbi, bi_sba, and_self, if_true, hx, e13, e14, e15, vnjk hk, h0]
    have : ¬ ((0 : Nat) = 1) := by decide
    simp only [this, and_false, if_false, h0, mn10' hL]
    rfl
  · unfold ok_X2_add
    refine ⟨fun _ => ?_, fun h9 => absurd ha h9⟩
    refine ⟨by unfold ok_J9_floorMod_7cf53; decide, ?_⟩
    rintro _ rfl
    rintro _ rfl
    have hb : bi (sbi B (p + 12) 1 (f_J9_floorMod_7cf53 (bi B (p + 12) 1 + 1) 10)) (p + 12) 1 = Int32.ofNat ((w + 1) % 10) := by
      rw [bi_sbi, if_pos ⟨rfl, rfl⟩, h1, fmod10 hw]
    refine ⟨by rw [hb]; exact hin, ?_⟩
    rintro _ rfl
    refine ⟨by rw [bi_sba, hb]; exact hin, ?_⟩
    rintro _ rfl
    rw [bi_sba, bi_sba, hb]
    exact hin
theorem Ti_jw {f n s kp c p : Nat} {B : StB} {R : Nat → Int32} {k a u : Int32} (h : Ti f n s kp c B p R) (hk : jk k) (ha : 1 ≤ a) : Ti f n s kp c (f_X2_add (p + 12) B k a u) p (jw R k a u) ∧ ok_X2_add (p + 12) B k a u ∧ ∀ C, Fr p C B → Fr p C (f_X2_add (p + 12) B k a u) := by
  obtain ⟨hA, hT, ⟨L, w, hJ⟩, hS⟩ := h
  obtain ⟨j0, j1, j2, j3, j4, j8, j5, j6, j7⟩ := hJ
  obtain ⟨e, ok⟩ := jadd_B (u := u) hk ha j4 j2 j0 j3
  rw [e]
  refine ⟨⟨?_, ?_, ?_, ?_⟩, ok, ?_⟩
  · simp only [TiA, jwB, bi_sbi, bi_sba, bi_sbl, ba_sbi, ba_sba, ba_sbl, jw] at hA ⊢
    grind
  · obtain ⟨t0, t1, t2, t3, t4, t5, t6, t7, t8⟩ := hT
    have hu : ∀ q, 44 ≤ q → q < 94 → jw R k a u q = R q := fun q h1 h2 => by
      simp only [jw]
      rw [if_neg (by omega), if_neg (by omega), if_neg (by omega), if_neg (by omega), if_neg (by omega)]
    have hu2 : ∀ q, q < 11 → jw R k a u q = R q := fun q h1 => by
      simp only [jw]
      rw [if_neg (by omega), if_neg (by omega), if_neg (by omega), if_neg (by omega), if_neg (by omega)]
    have hb : ∀ m v z d j, d < 12 → ba (jwB B p m v k a u) (p + d) j = ba B (p + d) j ∧ bi (jwB B p m v k a u) (p + d) j = bi B (p + d) j ∧ z = z := fun m v z d j hd => by
      unfold jwB
      refine ⟨?_, ?_, (rfl : z = (z : Nat))⟩
      · rw [ba_sbi, ba_sba, if_neg (by omega), ba_sba, if_neg (by omega), ba_sba, if_neg (by omega), ba_sbi]
      · rw [bi_sbi, if_neg (by omega), bi_sba, bi_sba, bi_sba, bi_sbi, if_neg (by omega)]
    have ha : ∀ d j, d < 12 → ba (jwB B p ((w + 1) % 10) (min (L + 1) 10) k a u) (p + d) j = ba B (p + d) j := fun d j hd => (hb _ _ 0 d j hd).1
    have hi : ∀ d j, d < 12 → bi (jwB B p ((w + 1) % 10) (min (L + 1) 10) k a u) (p + d) j = bi B (p + d) j := fun d j hd => (hb _ _ 0 d j hd).2.1
    refine ⟨by rw [hi 6 0 (by decide)]; exact t0, by rw [hu2 3 (by omega)]; exact t1, t2, t3, t4, t5, by rw [hu2 2 (by omega), hi 6 1 (by decide)]; exact t6, fun q hq => ?_, fun q hq => ?_⟩
    · simp (disch := omega) only [hu, ha]
      exact t7 q hq
    · simp (disch := omega) only [hu, ha]
      exact t8 q hq
  · refine ⟨min (L + 1) 10, (w + 1) % 10, ?_⟩
    have hm := mn10 j2
    have key : ∀ r, r < min (L + 1) 10 → r ≠ 0 → ((w + 1) % 10 + 10 - r) % 10 = (w + 10 - (r - 1)) % 10 ∧ ((w + 1) % 10 + 10 - r) % 10 ≠ (w + 1) % 10 := by
      intro r h1 h2
      omega
    have k0 : ((w + 1) % 10 + 10 - 0) % 10 = (w + 1) % 10 := by omega
    simp only [jwB, bi_sbi, bi_sba, bi_sbl, ba_sbi, ba_sba, ba_sbl, jw]
    refine ⟨by simp, ?_, by omega, by simp, by omega, ?_, ?_, ?_, ?_⟩
    · rw [j1] 
      simpa using hm
    · intro r hr
      by_cases h0 : r = 0
      · subst h0
        simpa using hk
      · have := j8 (r - 1) (by omega)
        rw [if_neg (by omega), if_neg (by omega), if_neg (by omega), if_neg (by omega), if_pos (by omega), show 94 + 3 * r - 3 = 94 + 3 * (r - 1) by omega]
        exact this
    · intro r hr
      by_cases h0 : r = 0
      · subst h0
        rw [k0]
        simp
      · have := j5 (r - 1) (by omega)
        obtain ⟨q1, q2⟩ := key r hr h0
        rw [if_neg (by omega), if_neg (by omega), if_neg (by omega), q1, this]
        rw [if_neg (by omega), if_neg (by omega), if_neg (by omega), if_neg (by omega), if_pos (by omega), show 94 + 3 * r - 3 = 94 + 3 * (r - 1) by omega]
    · intro r hr
      by_cases h0 : r = 0
      · subst h0
        rw [k0]
        simp
      · have := j6 (r - 1) (by omega)
        obtain ⟨q1, q2⟩ := key r hr h0
        rw [if_neg (by omega), if_neg (by omega), if_neg (by omega), q1, this]
        rw [if_neg (by omega), if_neg (by omega), if_neg (by omega), if_neg (by omega), if_pos (by omega), show 95 + 3 * r - 3 = 95 + 3 * (r - 1) by omega]
    · intro r hr
      by_cases h0 : r = 0
      · subst h0
        rw [k0]
        simp
      · have := j7 (r - 1) (by omega)
        obtain ⟨q1, q2⟩ := key r hr h0
        rw [if_neg (by omega), if_neg (by omega), if_neg (by omega), q1, this]
        rw [if_neg (by omega), if_neg (by omega), if_neg (by omega), if_neg (by omega), if_pos (by omega), show 96 + 3 * r - 3 = 96 + 3 * (r - 1) by omega]
  · simp only [TiS, jwB, bi_sbi, bi_sba, bi_sbl, ba_sbi, ba_sba, ba_sbl, bl_sbi, bl_sba, jw] at hS ⊢
    grind
  · intro C f
    unfold jwB
    exact Fr_i (Fr_a (Fr_a (Fr_a (Fr_i f 12 _ _ (by decide)) 13 _ _ (by decide)) 14 _ _ (by decide)) 15 _ _ (by decide)) 12 _ _ (by decide)
