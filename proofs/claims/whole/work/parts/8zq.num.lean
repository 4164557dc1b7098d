/-! the pure part: numbers written -/
def p10 : Nat → Nat
  | 0 => 1
  | k + 1 => 10 * p10 k
theorem p10_s (k : Nat) : p10 (k + 1) = 10 * p10 k := rfl
theorem p10_b : ∀ i, i < 9 → p10 i ≤ 100000000 ∧ 1 ≤ p10 i := by decide +kernel
theorem p10_m {i j : Nat} (h : i ≤ j) : p10 i ≤ p10 j := by
  obtain ⟨d, rfl⟩ : ∃ d, j = i + d := ⟨j - i, by omega⟩
  clear h
  induction d with
  | zero => exact Nat.le_refl _
  | succ d ih =>
    have := p10_s (i + d)
    rw [show i + (d + 1) = i + d + 1 by omega]
    omega
def dgt (v D : Nat) : Prop := v < p10 (D + 1) ∧ (D = 0 ∨ p10 D ≤ v) ∧ D ≤ 7
theorem dgt_ex {v : Nat} (h : v < 100000000) : ∃ D, dgt v D := by
  have key : ∀ k, k ≤ 7 → v < p10 (k + 1) → ∃ D, dgt v D := by
    intro k
    induction k with
    | zero => intro _ hv; exact ⟨0, hv, Or.inl rfl, by omega⟩
    | succ k ih =>
      intro hk hv
      by_cases c : v < p10 (k + 1)
      · exact ih (by omega) c
      · exact ⟨k + 1, hv, Or.inr (by omega), by omega⟩
  exact key 7 (by omega) (by
    have : p10 (7 + 1) = 100000000 := by decide
    omega)
def dgv (v i : Nat) : Int32 := Int32.ofNat (48 + v / p10 i % 10)
theorem dg_tab : ∀ x, x < 100 → vp_nar .byte (dgO.getD x 0) = Int32.ofNat (48 + x % 10) ∧ vp_nar .byte (dgT.getD x 0) = Int32.ofNat (48 + x / 10) := by decide +kernel
theorem dgv_b (v i : Nat) : 0 ≤ (dgv v i).toInt ∧ (dgv v i).toInt ≤ 127 := by
  have := Nat.mod_lt (v / p10 i) (by decide : 10 > 0)
  unfold dgv
  rw [ofN_toInt (by omega)]
  omega
theorem ng_int {v : Nat} (h : v < 1000000000) : (-(Int32.ofNat v)).toInt = -(v : Int) := by
  rw [i32_neg (by rw [ofN_toInt (by omega)]; omega), ofN_toInt (by omega)]
theorem l100 : (100 : Int32).toInt = 100 ∧ (-100 : Int32).toInt = -100 ∧ (-9 : Int32).toInt = -9 ∧ (10 : Int32).toInt = 10 ∧ (9 : Int32).toInt = 9 ∧ (-10 : Int32).toInt = -10 := by decide
theorem odiv {a b : Nat} (ha : a < 1000000000) (hb : 0 < b) (hb2 : b < 1000000000) : Int32.ofNat a / Int32.ofNat b = Int32.ofNat (a / b) := by
  have h := Nat.div_le_self a b
  rw [i32_inj, Int32.toInt_div, ofN_toInt (by omega), ofN_toInt (by omega), ofN_toInt (by omega), ← Int.ofNat_tdiv]
  generalize a / b = q at h ⊢
  exact Int.bmod_eq_of_le (by omega) (by omega)
theorem ndiv {v : Nat} (h : v < 1000000000) : -(Int32.ofNat v) / 100 = -(Int32.ofNat (v / 100)) := by
  rw [i32_inj, Int32.toInt_div, ng_int h, ng_int (by omega), l100.1, Int.neg_tdiv, show (100 : Int) = ((100 : Nat) : Int) from rfl, ← Int.ofNat_tdiv]
  exact Int.bmod_eq_of_le (by omega) (by omega)
theorem nmod {v : Nat} (h : v < 1000000000) : -(Int32.ofNat (v / 100)) * 100 - -(Int32.ofNat v) = Int32.ofNat (v % 100) := by
  have m : (-(Int32.ofNat (v / 100)) * 100).toInt = -((v / 100 : Nat) : Int) * 100 := by
    rw [i32_mul (by rw [ng_int (by omega), l100.1]; omega) (by rw [ng_int (by omega), l100.1]; omega), ng_int (by omega), l100.1]
  rw [i32_inj, i32_sub (by rw [m, ng_int h]; omega) (by rw [m, ng_int h]; omega), m, ng_int h, ofN_toInt (by omega)]
  omega
/-- how long a number is -/
theorem L_size {v D : Nat} (h : dgt v D) (s : Nat) (hs : s < 10) : ∀ (g n i : Nat), i + g = D + 1 → 1 ≤ i → g < n → ok_J6_stringSize_0f7a4_L16 n (-(Int32.ofNat v)) (Int32.ofNat s) (-(Int32.ofNat (p10 i))) (Int32.ofNat i) ∧ f_J6_stringSize_0f7a4_L16 n (-(Int32.ofNat v)) (Int32.ofNat s) (-(Int32.ofNat (p10 i))) (Int32.ofNat i) = Int32.ofNat (D + 1 + s) := by
  obtain ⟨h1, h2, h3⟩ := h
  have hb := p10_b (D + 1) (by omega)
  intro g
  induction g with
  | zero =>
    intro n i hi hi1 hn
    obtain ⟨n, rfl⟩ : ∃ q, n = q + 1 := ⟨n - 1, by omega⟩
    have e : i = D + 1 := by omega
    subst e
    have w10 : ¬ (10 : Int32) ≤ Int32.ofNat (D + 1) := by
      rw [show (10 : Int32) = Int32.ofNat 10 from rfl, le_ofN (by omega) (by omega)]
      omega
    have w : ¬ (-(Int32.ofNat v)) ≤ -(Int32.ofNat (p10 (D + 1))) := by
      rw [i32_le, ng_int (by omega), ng_int (by omega)]
      omega
    refine ⟨⟨fun _ => trivial, fun _ => ⟨fun h9 => absurd h9 w, fun _ => trivial⟩⟩, ?_⟩
    rw [f_J6_stringSize_0f7a4_L16, if_neg w10, if_neg w, oadd]
  | succ g ih =>
    intro n i hi hi1 hn
    obtain ⟨n, rfl⟩ : ∃ q, n = q + 1 := ⟨n - 1, by omega⟩
    have w10 : ¬ (10 : Int32) ≤ Int32.ofNat i := by
      rw [show (10 : Int32) = Int32.ofNat 10 from rfl, le_ofN (by omega) (by omega)]
      omega
    have hm : p10 i ≤ p10 D := p10_m (by omega)
    have hb2 := p10_b D (by omega)
    have hbi := p10_b (i + 1) (by omega)
    have hs2 := p10_s i
    have w : (-(Int32.ofNat v)) ≤ -(Int32.ofNat (p10 i)) := by
      rw [i32_le, ng_int (by omega), ng_int (by omega)]
      omega
    have em : 10 * -(Int32.ofNat (p10 i)) = -(Int32.ofNat (p10 (i + 1))) := by
      rw [i32_inj, i32_mul (by rw [ng_int (by omega), l100.2.2.2.1]; omega) (by rw [ng_int (by omega), l100.2.2.2.1]; omega), ng_int (by omega), ng_int (by omega), l100.2.2.2.1]
      omega
    obtain ⟨r1, r2⟩ := ih n (i + 1) (by omega) (by omega) (by omega)
    refine ⟨⟨fun _ => trivial, fun _ => ⟨fun _ => ?_, fun _ => trivial⟩⟩, ?_⟩
    · intro y hy
      rw [hy, em, oad1]
      exact r1
    · rw [f_J6_stringSize_0f7a4_L16, if_neg w10, if_pos w, nm_eq, em, oad1]
      exact r2
/-- the model's greatest power -/
theorem L_pow {v D : Nat} (h : dgt v D) (M : StM) (a : Int32) : ∀ (g n j : Nat), j + g = D → g < n → ok_X7_writesNumber_L25 n M a (Int32.ofNat v) (Int32.ofNat (p10 j)) ∧ f_X7_writesNumber_L25 n M a (Int32.ofNat v) (Int32.ofNat (p10 j)) = Int32.ofNat (p10 D) := by
  obtain ⟨h1, h2, h3⟩ := h
  have hbD := p10_b (D + 1) (by omega)
  intro g
  induction g with
  | zero =>
    intro n j hj hn
    obtain ⟨n, rfl⟩ : ∃ q, n = q + 1 := ⟨n - 1, by omega⟩
    have e : j = D := by omega
    subst e
    have hb := p10_b j (by omega)
    have hs2 := p10_s j
    have hd : v / p10 j ≤ 9 := by
      have : v / p10 j < 10 := Nat.div_lt_of_lt_mul (by omega)
      omega
    have ne : ¬ Int32.ofNat (p10 j) = 0 := by
      rw [show (0 : Int32) = Int32.ofNat 0 from rfl, ofN_inj (by omega) (by omega)]
      omega
    have w : Int32.ofNat v / Int32.ofNat (p10 j) ≤ 9 := by
      rw [odiv (by omega) (by omega) (by omega), show (9 : Int32) = Int32.ofNat 9 from rfl, le_ofN (by omega) (by omega)]
      exact hd
    refine ⟨⟨ne, fun _ => trivial, fun h9 => absurd w h9⟩, ?_⟩
    rw [f_X7_writesNumber_L25, if_pos w]
  | succ g ih =>
    intro n j hj hn
    obtain ⟨n, rfl⟩ : ∃ q, n = q + 1 := ⟨n - 1, by omega⟩
    have hb := p10_b j (by omega)
    have hb1 := p10_b (j + 1) (by omega)
    have hs2 := p10_s j
    have hm : p10 (j + 1) ≤ p10 D := p10_m (by omega)
    have hd : 10 ≤ v / p10 j := by
      rw [Nat.le_div_iff_mul_le (by omega)]
      omega
    have hd2 := Nat.div_le_self v (p10 j)
    have ne : ¬ Int32.ofNat (p10 j) = 0 := by
      rw [show (0 : Int32) = Int32.ofNat 0 from rfl, ofN_inj (by omega) (by omega)]
      omega
    have w : ¬ Int32.ofNat v / Int32.ofNat (p10 j) ≤ 9 := by
      rw [odiv (by omega) (by omega) (by omega), show (9 : Int32) = Int32.ofNat 9 from rfl, le_ofN (by omega) (by omega)]
      omega
    have em : Int32.ofNat (p10 j) * 10 = Int32.ofNat (p10 (j + 1)) := by
      rw [hs2, Nat.mul_comm, Int32.ofNat_mul]
      rfl
    obtain ⟨r1, r2⟩ := ih n (j + 1) (by omega) (by omega)
    refine ⟨⟨ne, fun _ => trivial, fun _ => ?_⟩, ?_⟩
    · intro y hy
      rw [hy, em]
      exact r1
    · rw [f_X7_writesNumber_L25, if_neg w, nm_eq, em]
      exact r2
def NF (p : Nat) (M M' : StM) : Prop := (∀ j, mi M' j = mi M j) ∧ (∀ q k, q ≠ 6 → ma M' q k = ma M q k) ∧ (∀ k, k < p → ma M' 6 k = ma M 6 k)
theorem NF_t {p p' : Nat} {M M' M'' : StM} (h : NF p M M') (h' : NF p' M' M'') (hp : p ≤ p') : NF p M M'' := ⟨fun j => (h'.1 j).trans (h.1 j), fun q k hq => (h'.2.1 q k hq).trans (h.2.1 q k hq), fun k hk => (h'.2.2 k (by omega)).trans (h.2.2 k hk)⟩
theorem NF_r (p : Nat) (M : StM) : NF p M M := ⟨fun _ => rfl, fun _ _ _ => rfl, fun _ _ => rfl⟩
theorem putM {p : Nat} (M : StM) (c : Int32) (hp : p < 40) : f_X7_put M (Int32.ofNat p) c = (Int32.ofNat (p + 1), sma M 6 p c) ∧ ok_X7_put M (Int32.ofNat p) c ∧ NF p M (sma M 6 p c) := by
  refine ⟨?_, in_o hp (by omega), fun _ => rfl, fun q k hq => ?_, fun k hk => ?_⟩
  · unfold f_X7_put
    rw [nm_eq, ix_o (by omega), oad1]
  · rw [ma_sma, if_neg (by omega)]
  · rw [ma_sma, if_neg (by omega)]
def pw : Nat → Nat
  | 0 => 0
  | r + 1 => p10 r
/-- the model's digits -/
theorem L_dig {v : Nat} (hv : v < 100000000) : ∀ (r n p : Nat) (M : StM), r ≤ 8 → r < n → p + r ≤ 40 → ok_X7_writesNumber_L49 n M (Int32.ofNat p) (Int32.ofNat v) (Int32.ofNat (pw r)) ∧ ∃ M', f_X7_writesNumber_L49 n M (Int32.ofNat p) (Int32.ofNat v) (Int32.ofNat (pw r)) = (Int32.ofNat (p + r), M') ∧ NF p M M' ∧ ∀ i, i < r → ma M' 6 (p + r - 1 - i) = dgv v i := by
  intro r
  induction r with
  | zero =>
    intro n p M hr hn hp
    obtain ⟨n, rfl⟩ : ∃ q, n = q + 1 := ⟨n - 1, by omega⟩
    have w : Int32.ofNat (pw 0) ≤ 0 := by decide
    refine ⟨⟨fun _ => trivial, fun h9 => absurd w h9⟩, M, ?_, NF_r p M, fun i hi => by omega⟩
    rw [f_X7_writesNumber_L49, if_pos w]
    rfl
  | succ r ih =>
    intro n p M hr hn hp
    obtain ⟨n, rfl⟩ : ∃ q, n = q + 1 := ⟨n - 1, by omega⟩
    have hb := p10_b r (by omega)
    have ew : pw (r + 1) = p10 r := rfl
    have w : ¬ Int32.ofNat (pw (r + 1)) ≤ 0 := by
      rw [ew, show (0 : Int32) = Int32.ofNat 0 from rfl, le_ofN (by omega) (by omega)]
      omega
    have ne : ¬ Int32.ofNat (pw (r + 1)) = 0 := by
      rw [ew, show (0 : Int32) = Int32.ofNat 0 from rfl, ofN_inj (by omega) (by omega)]
      omega
    have hq := Nat.div_le_self v (p10 r)
    have eq : Int32.ofNat v / Int32.ofNat (pw (r + 1)) = Int32.ofNat (v / p10 r) := by
      rw [ew]
      exact odiv (by omega) (by omega) (by omega)
    have ed : 48 + (Int32.ofNat (v / p10 r) - Int32.ofNat (v / p10 r) / 10 * 10) = dgv v r := by
      have e1 : Int32.ofNat (v / p10 r) / 10 = Int32.ofNat (v / p10 r / 10) := odiv (b := 10) (by omega) (by omega) (by omega)
      have e2 : Int32.ofNat (v / p10 r / 10) * 10 = Int32.ofNat (v / p10 r / 10 * 10) := (Int32.ofNat_mul _ 10).symm
      rw [e1, e2, osub (by omega)]
      unfold dgv
      rw [show (48 : Int32) = Int32.ofNat 48 from rfl, oadd]
      exact congrArg Int32.ofNat (by omega)
    have e10 : Int32.ofNat (pw (r + 1)) / 10 = Int32.ofNat (pw r) := by
      have e1 : Int32.ofNat (pw (r + 1)) / 10 = Int32.ofNat (p10 r / 10) := odiv (b := 10) (by omega) (by omega) (by omega)
      rw [e1]
      cases r with
      | zero => rfl
      | succ r =>
        have := p10_s r
        exact congrArg Int32.ofNat (show p10 (r + 1) / 10 = p10 r by omega)
    obtain ⟨P1, P2, P3⟩ := putM (p := p) M (dgv v r) (by omega)
    obtain ⟨r1, M', r2, r3, r4⟩ := ih n (p + 1) (sma M 6 p (dgv v r)) (by omega) (by omega) (by omega)
    refine ⟨⟨fun h9 => absurd h9 w, fun _ => ⟨ne, ?_⟩⟩, M', ?_, NF_t P3 r3 (by omega), fun i hi => ?_⟩
    · rw [eq, ed, e10]
      refine ⟨P2, ?_⟩
      intro z hz y hy
      rw [hz, hy, P1]
      exact r1
    · rw [f_X7_writesNumber_L49, if_neg w, eq, ed, e10, nm_eq, P1, nm_eq, r2]
      exact congrArg (fun x => (Int32.ofNat x, M')) (by omega)
    · by_cases hir : i = r
      · subst hir
        rw [show p + (i + 1) - 1 - i = p by omega, r3.2.2 p (by omega), ma_sma, if_pos ⟨rfl, rfl⟩]
      · rw [show p + (r + 1) - 1 - i = p + 1 + r - 1 - i by omega]
        exact r4 i (by omega)
