/-! p51: numbers and letters of a statement -/
/-! the pure part: numbers written -/
def p10 : Nat → Nat
  | 0 => 1
  | k + 1 => 10 * p10 k
theorem p10_s (k : Nat) : p10 (k + 1) = 10 * p10 k := rfl
theorem p10_b : ∀ i, i < 9 → p10 i ≤ 100000000 ∧ 1 ≤ p10 i := by decide +kernel
theorem p10_m {i j : Nat} (h : i ≤ j) : p10 i ≤ p10 j := by
  obtain ⟨d, rfl⟩ : ∃ d, j = i + d := ⟨j - i, by omega⟩
  clear h
  induction d with
  | zero => exact Nat.le_refl _
  | succ d ih =>
    have := p10_s (i + d)
    rw [show i + (d + 1) = i + d + 1 by omega]
    omega
def dgt (v D : Nat) : Prop := v < p10 (D + 1) ∧ (D = 0 ∨ p10 D ≤ v) ∧ D ≤ 7
theorem dgt_ex {v : Nat} (h : v < 100000000) : ∃ D, dgt v D := by
  have key : ∀ k, k ≤ 7 → v < p10 (k + 1) → ∃ D, dgt v D := by
    intro k
    induction k with
    | zero => intro _ hv; exact ⟨0, hv, Or.inl rfl, by omega⟩
    | succ k ih =>
      intro hk hv
      by_cases c : v < p10 (k + 1)
      · exact ih (by omega) c
      · exact ⟨k + 1, hv, Or.inr (by omega), by omega⟩
  exact key 7 (by omega) (by
    have : p10 (7 + 1) = 100000000 := by decide
    omega)
def dgv (v i : Nat) : Int32 := Int32.ofNat (48 + v / p10 i % 10)
theorem dg_tab : ∀ x, x < 100 → vp_nar .byte (dgO.getD x 0) = Int32.ofNat (48 + x % 10) ∧ vp_nar .byte (dgT.getD x 0) = Int32.ofNat (48 + x / 10) := by decide +kernel
theorem dgv_b (v i : Nat) : 0 ≤ (dgv v i).toInt ∧ (dgv v i).toInt ≤ 127 := by
  have := Nat.mod_lt (v / p10 i) (by decide : 10 > 0)
  unfold dgv
  rw [ofN_toInt (by omega)]
  omega
theorem ng_int {v : Nat} (h : v < 1000000000) : (-(Int32.ofNat v)).toInt = -(v : Int) := by
  rw [i32_neg (by rw [ofN_toInt (by omega)]; omega), ofN_toInt (by omega)]
theorem l100 : (100 : Int32).toInt = 100 ∧ (-100 : Int32).toInt = -100 ∧ (-9 : Int32).toInt = -9 ∧ (10 : Int32).toInt = 10 ∧ (9 : Int32).toInt = 9 ∧ (-10 : Int32).toInt = -10 := by decide
theorem odiv {a b : Nat} (ha : a < 1000000000) (hb : 0 < b) (hb2 : b < 1000000000) : Int32.ofNat a / Int32.ofNat b = Int32.ofNat (a / b) := by
  have h := Nat.div_le_self a b
  rw [i32_inj, Int32.toInt_div, ofN_toInt (by omega), ofN_toInt (by omega), ofN_toInt (by omega), ← Int.ofNat_tdiv]
  generalize a / b = q at h ⊢
  exact Int.bmod_eq_of_le (by omega) (by omega)
theorem ndiv {v : Nat} (h : v < 1000000000) : -(Int32.ofNat v) / 100 = -(Int32.ofNat (v / 100)) := by
  rw [i32_inj, Int32.toInt_div, ng_int h, ng_int (by omega), l100.1, Int.neg_tdiv, show (100 : Int) = ((100 : Nat) : Int) from rfl, ← Int.ofNat_tdiv]
  exact Int.bmod_eq_of_le (by omega) (by omega)
theorem nmod {v : Nat} (h : v < 1000000000) : -(Int32.ofNat (v / 100)) * 100 - -(Int32.ofNat v) = Int32.ofNat (v % 100) := by
  have m : (-(Int32.ofNat (v / 100)) * 100).toInt = -((v / 100 : Nat) : Int) * 100 := by
    rw [i32_mul (by rw [ng_int (by omega), l100.1]; omega) (by rw [ng_int (by omega), l100.1]; omega), ng_int (by omega), l100.1]
  rw [i32_inj, i32_sub (by rw [m, ng_int h]; omega) (by rw [m, ng_int h]; omega), m, ng_int h, ofN_toInt (by omega)]
  omega
/-- how long a number is -/
theorem L_size {v D : Nat} (h : dgt v D) (s : Nat) (hs : s < 10) : ∀ (g n i : Nat), i + g = D + 1 → 1 ≤ i → g < n → ok_J6_stringSize_0f7a4_L16 n (-(Int32.ofNat v)) (Int32.ofNat s) (-(Int32.ofNat (p10 i))) (Int32.ofNat i) ∧ f_J6_stringSize_0f7a4_L16 n (-(Int32.ofNat v)) (Int32.ofNat s) (-(Int32.ofNat (p10 i))) (Int32.ofNat i) = Int32.ofNat (D + 1 + s) := by
  obtain ⟨h1, h2, h3⟩ := h
  have hb := p10_b (D + 1) (by omega)
  intro g
  induction g with
  | zero =>
    intro n i hi hi1 hn
    obtain ⟨n, rfl⟩ : ∃ q, n = q + 1 := ⟨n - 1, by omega⟩
    have e : i = D + 1 := by omega
    subst e
    have w10 : ¬ (10 : Int32) ≤ Int32.ofNat (D + 1) := by
      rw [show (10 : Int32) = Int32.ofNat 10 from rfl, le_ofN (by omega) (by omega)]
      omega
    have w : ¬ (-(Int32.ofNat v)) ≤ -(Int32.ofNat (p10 (D + 1))) := by
      rw [i32_le, ng_int (by omega), ng_int (by omega)]
      omega
    refine ⟨⟨fun _ => trivial, fun _ => ⟨fun h9 => absurd h9 w, fun _ => trivial⟩⟩, ?_⟩
    rw [f_J6_stringSize_0f7a4_L16, if_neg w10, if_neg w, oadd]
  | succ g ih =>
    intro n i hi hi1 hn
    obtain ⟨n, rfl⟩ : ∃ q, n = q + 1 := ⟨n - 1, by omega⟩
    have w10 : ¬ (10 : Int32) ≤ Int32.ofNat i := by
      rw [show (10 : Int32) = Int32.ofNat 10 from rfl, le_ofN (by omega) (by omega)]
      omega
    have hm : p10 i ≤ p10 D := p10_m (by omega)
    have hb2 := p10_b D (by omega)
    have hbi := p10_b (i + 1) (by omega)
    have hs2 := p10_s i
    have w : (-(Int32.ofNat v)) ≤ -(Int32.ofNat (p10 i)) := by
      rw [i32_le, ng_int (by omega), ng_int (by omega)]
      omega
    have em : 10 * -(Int32.ofNat (p10 i)) = -(Int32.ofNat (p10 (i + 1))) := by
      rw [i32_inj, i32_mul (by rw [ng_int (by omega), l100.2.2.2.1]; omega) (by rw [ng_int (by omega), l100.2.2.2.1]; omega), ng_int (by omega), ng_int (by omega), l100.2.2.2.1]
      omega
    obtain ⟨r1, r2⟩ := ih n (i + 1) (by omega) (by omega) (by omega)
    refine ⟨⟨fun _ => trivial, fun _ => ⟨fun _ => ?_, fun _ => trivial⟩⟩, ?_⟩
    · intro y hy
      rw [hy, em, oad1]
      exact r1
    · rw [f_J6_stringSize_0f7a4_L16, if_neg w10, if_pos w, nm_eq, em, oad1]
      exact r2
/-- the model's greatest power -/
theorem L_pow {v D : Nat} (h : dgt v D) (M : StM) (a : Int32) : ∀ (g n j : Nat), j + g = D → g < n → ok_X7_writesNumber_L25 n M a (Int32.ofNat v) (Int32.ofNat (p10 j)) ∧ f_X7_writesNumber_L25 n M a (Int32.ofNat v) (Int32.ofNat (p10 j)) = Int32.ofNat (p10 D) := by
  obtain ⟨h1, h2, h3⟩ := h
  have hbD := p10_b (D + 1) (by omega)
  intro g
  induction g with
  | zero =>
    intro n j hj hn
    obtain ⟨n, rfl⟩ : ∃ q, n = q + 1 := ⟨n - 1, by omega⟩
    have e : j = D := by omega
    subst e
    have hb := p10_b j (by omega)
    have hs2 := p10_s j
    have hd : v / p10 j ≤ 9 := by
      have : v / p10 j < 10 := Nat.div_lt_of_lt_mul (by omega)
      omega
    have ne : ¬ Int32.ofNat (p10 j) = 0 := by
      rw [show (0 : Int32) = Int32.ofNat 0 from rfl, ofN_inj (by omega) (by omega)]
      omega
    have w : Int32.ofNat v / Int32.ofNat (p10 j) ≤ 9 := by
      rw [odiv (by omega) (by omega) (by omega), show (9 : Int32) = Int32.ofNat 9 from rfl, le_ofN (by omega) (by omega)]
      exact hd
    refine ⟨⟨ne, fun _ => trivial, fun h9 => absurd w h9⟩, ?_⟩
    rw [f_X7_writesNumber_L25, if_pos w]
  | succ g ih =>
    intro n j hj hn
    obtain ⟨n, rfl⟩ : ∃ q, n = q + 1 := ⟨n - 1, by omega⟩
    have hb := p10_b j (by omega)
    have hb1 := p10_b (j + 1) (by omega)
    have hs2 := p10_s j
    have hm : p10 (j + 1) ≤ p10 D := p10_m (by omega)
    have hd : 10 ≤ v / p10 j := by
      rw [Nat.le_div_iff_mul_le (by omega)]
      omega
    have hd2 := Nat.div_le_self v (p10 j)
    have ne : ¬ Int32.ofNat (p10 j) = 0 := by
      rw [show (0 : Int32) = Int32.ofNat 0 from rfl, ofN_inj (by omega) (by omega)]
      omega
    have w : ¬ Int32.ofNat v / Int32.ofNat (p10 j) ≤ 9 := by
      rw [odiv (by omega) (by omega) (by omega), show (9 : Int32) = Int32.ofNat 9 from rfl, le_ofN (by omega) (by omega)]
      omega
    have em : Int32.ofNat (p10 j) * 10 = Int32.ofNat (p10 (j + 1)) := by
      rw [hs2, Nat.mul_comm, Int32.ofNat_mul]
      rfl
    obtain ⟨r1, r2⟩ := ih n (j + 1) (by omega) (by omega)
    refine ⟨⟨ne, fun _ => trivial, fun _ => ?_⟩, ?_⟩
    · intro y hy
      rw [hy, em]
      exact r1
    · rw [f_X7_writesNumber_L25, if_neg w, nm_eq, em]
      exact r2
def NF (p : Nat) (M M' : StM) : Prop := (∀ j, mi M' j = mi M j) ∧ (∀ q k, q ≠ 6 → ma M' q k = ma M q k) ∧ (∀ k, k < p → ma M' 6 k = ma M 6 k)
theorem NF_t {p p' : Nat} {M M' M'' : StM} (h : NF p M M') (h' : NF p' M' M'') (hp : p ≤ p') : NF p M M'' := ⟨fun j => (h'.1 j).trans (h.1 j), fun q k hq => (h'.2.1 q k hq).trans (h.2.1 q k hq), fun k hk => (h'.2.2 k (by omega)).trans (h.2.2 k hk)⟩
theorem NF_r (p : Nat) (M : StM) : NF p M M := ⟨fun _ => rfl, fun _ _ _ => rfl, fun _ _ => rfl⟩
theorem putM {p : Nat} (M : StM) (c : Int32) (hp : p < 40) : f_X7_put M (Int32.ofNat p) c = (Int32.ofNat (p + 1), sma M 6 p c) ∧ ok_X7_put M (Int32.ofNat p) c ∧ NF p M (sma M 6 p c) := by
  refine ⟨?_, in_o hp (by omega), fun _ => rfl, fun q k hq => ?_, fun k hk => ?_⟩
  · unfold f_X7_put
    rw [nm_eq, ix_o (by omega), oad1]
  · rw [ma_sma, if_neg (by omega)]
  · rw [ma_sma, if_neg (by omega)]
def pw : Nat → Nat
  | 0 => 0
  | r + 1 => p10 r
/-- the model's digits -/
theorem L_dig {v : Nat} (hv : v < 100000000) : ∀ (r n p : Nat) (M : StM), r ≤ 8 → r < n → p + r ≤ 40 → ok_X7_writesNumber_L49 n M (Int32.ofNat p) (Int32.ofNat v) (Int32.ofNat (pw r)) ∧ ∃ M', f_X7_writesNumber_L49 n M (Int32.ofNat p) (Int32.ofNat v) (Int32.ofNat (pw r)) = (Int32.ofNat (p + r), M') ∧ NF p M M' ∧ ∀ i, i < r → ma M' 6 (p + r - 1 - i) = dgv v i := by
  intro r
  induction r with
  | zero =>
    intro n p M hr hn hp
    obtain ⟨n, rfl⟩ : ∃ q, n = q + 1 := ⟨n - 1, by omega⟩
    have w : Int32.ofNat (pw 0) ≤ 0 := by decide
    refine ⟨⟨fun _ => trivial, fun h9 => absurd w h9⟩, M, ?_, NF_r p M, fun i hi => by omega⟩
    rw [f_X7_writesNumber_L49, if_pos w]
    rfl
  | succ r ih =>
    intro n p M hr hn hp
    obtain ⟨n, rfl⟩ : ∃ q, n = q + 1 := ⟨n - 1, by omega⟩
    have hb := p10_b r (by omega)
    have ew : pw (r + 1) = p10 r := rfl
    have w : ¬ Int32.ofNat (pw (r + 1)) ≤ 0 := by
      rw [ew, show (0 : Int32) = Int32.ofNat 0 from rfl, le_ofN (by omega) (by omega)]
      omega
    have ne : ¬ Int32.ofNat (pw (r + 1)) = 0 := by
      rw [ew, show (0 : Int32) = Int32.ofNat 0 from rfl, ofN_inj (by omega) (by omega)]
      omega
    have hq := Nat.div_le_self v (p10 r)
    have eq : Int32.ofNat v / Int32.ofNat (pw (r + 1)) = Int32.ofNat (v / p10 r) := by
      rw [ew]
      exact odiv (by omega) (by omega) (by omega)
    have ed : 48 + (Int32.ofNat (v / p10 r) - Int32.ofNat (v / p10 r) / 10 * 10) = dgv v r := by
      have e1 : Int32.ofNat (v / p10 r) / 10 = Int32.ofNat (v / p10 r / 10) := odiv (b := 10) (by omega) (by omega) (by omega)
      have e2 : Int32.ofNat (v / p10 r / 10) * 10 = Int32.ofNat (v / p10 r / 10 * 10) := (Int32.ofNat_mul _ 10).symm
      rw [e1, e2, osub (by omega)]
      unfold dgv
      rw [show (48 : Int32) = Int32.ofNat 48 from rfl, oadd]
      exact congrArg Int32.ofNat (by omega)
    have e10 : Int32.ofNat (pw (r + 1)) / 10 = Int32.ofNat (pw r) := by
      have e1 : Int32.ofNat (pw (r + 1)) / 10 = Int32.ofNat (p10 r / 10) := odiv (b := 10) (by omega) (by omega) (by omega)
      rw [e1]
      cases r with
      | zero => rfl
      | succ r =>
        have := p10_s r
        exact congrArg Int32.ofNat (show p10 (r + 1) / 10 = p10 r by omega)
    obtain ⟨P1, P2, P3⟩ := putM (p := p) M (dgv v r) (by omega)
    obtain ⟨r1, M', r2, r3, r4⟩ := ih n (p + 1) (sma M 6 p (dgv v r)) (by omega) (by omega) (by omega)
    refine ⟨⟨fun h9 => absurd h9 w, fun _ => ⟨ne, ?_⟩⟩, M', ?_, NF_t P3 r3 (by omega), fun i hi => ?_⟩
    · rw [eq, ed, e10]
      refine ⟨P2, ?_⟩
      intro z hz y hy
      rw [hz, hy, P1]
      exact r1
    · rw [f_X7_writesNumber_L49, if_neg w, eq, ed, e10, nm_eq, P1, nm_eq, r2]
      exact congrArg (fun x => (Int32.ofNat x, M')) (by omega)
    · by_cases hir : i = r
      · subst hir
        rw [show p + (i + 1) - 1 - i = p by omega, r3.2.2 p (by omega), ma_sma, if_pos ⟨rfl, rfl⟩]
      · rw [show p + (r + 1) - 1 - i = p + 1 + r - 1 - i by omega]
        exact r4 i (by omega)
/-! the pure part: the class's digits -/
def CF (lo : Nat) (B C : StB) : Prop := bz C = bz B ∧ (∀ q k, bi C q k = bi B q k ∧ bl C q k = bl B q k) ∧ (∀ q k, q ≠ 192 → ba C q k = ba B q k) ∧ (∀ k, k < lo → ba C 192 k = ba B 192 k)
theorem CF_r (lo : Nat) (B : StB) : CF lo B B := ⟨rfl, fun _ _ => ⟨rfl, rfl⟩, fun _ _ _ => rfl, fun _ _ => rfl⟩
theorem CF_t {lo lo' : Nat} {B C D : StB} (h : CF lo B C) (h2 : CF lo' C D) (hl : lo' ≤ lo) : CF lo' B D := ⟨h2.1.trans h.1, fun q k => ⟨(h2.2.1 q k).1.trans (h.2.1 q k).1, (h2.2.1 q k).2.trans (h.2.1 q k).2⟩, fun q k hq => (h2.2.2.1 q k hq).trans (h.2.2.1 q k hq), fun k hk => (h2.2.2.2 k hk).trans (h.2.2.2 k (by omega))⟩
theorem CF_a {lo j : Nat} (B : StB) (v : Int32) (hj : lo ≤ j) : CF lo B (sba B 192 j v) := ⟨rfl, fun _ _ => ⟨rfl, rfl⟩, fun q k hq => by rw [ba_sba, if_neg (by omega)], fun k hk => by rw [ba_sba, if_neg (by omega)]⟩
theorem om1 {e : Nat} (h : 0 < e) : Int32.ofNat e + (-1) = Int32.ofNat (e - 1) := by
  rw [show (-1 : Int32) = -(Int32.ofNat 1) from rfl, ← Int32.sub_eq_add_neg, osub (by omega)]
theorem w100 {v : Nat} (h : v < 1000000000) : ((-100 : Int32) < -(Int32.ofNat v)) ↔ v < 100 := by
  rw [i32_lt, ng_int h, l100.2.1]
  omega
theorem w9 {v : Nat} (h : v < 1000000000) : ((-9 : Int32) ≤ -(Int32.ofNat v)) ↔ v ≤ 9 := by
  rw [i32_le, ng_int h, l100.2.2.1]
  omega
theorem dgt_100 {v D : Nat} (h : dgt v (D + 2)) : dgt (v / 100) D ∧ 100 ≤ v := by
  obtain ⟨h1, h2, h3⟩ := h
  have e1 := p10_s (D + 2)
  have e2 := p10_s (D + 1)
  have e3 := p10_s D
  have e4 := p10_b D (by omega)
  have hp : p10 (D + 2) ≤ v := by
    rcases h2 with h2 | h2
    · omega
    · exact h2
  have e1' : p10 (D + 2 + 1) = 10 * p10 (D + 1 + 1) := e1
  have e2' : p10 (D + 2) = 10 * p10 (D + 1) := e2
  have e0 : p10 (D + 1 + 1) = p10 (D + 2) := rfl
  rw [e1', e0, e2', e3] at h1
  rw [e2', e3] at hp
  have g1 : v / 100 < p10 (D + 1) := by
    rw [e3]
    omega
  exact ⟨⟨g1, Or.inr (by omega), by omega⟩, by omega⟩
theorem dgt_big {v D : Nat} (h : dgt v D) (hv : 100 ≤ v) : ∃ d, D = d + 2 := by
  refine ⟨D - 2, ?_⟩
  have h1 := h.1
  have : ¬ D < 2 := by
    intro hD
    have := p10_m (show D + 1 ≤ 2 by omega)
    have e : p10 2 = 100 := by decide
    omega
  omega
theorem dgv_2 (v i : Nat) : dgv (v / 100) i = dgv v (i + 2) := by
  unfold dgv
  have e : p10 (i + 2) = 100 * p10 i := by
    have e1 : p10 (i + 2) = 10 * p10 (i + 1) := rfl
    have e2 := p10_s i
    omega
  rw [e, Nat.div_div_eq_div_mul]
theorem dgv_0 (v : Nat) : dgv v 0 = Int32.ofNat (48 + v % 100 % 10) := by
  unfold dgv
  rw [show p10 0 = 1 from rfl, Nat.div_one]
  exact congrArg Int32.ofNat (by omega)
theorem dgv_1 (v : Nat) : dgv v 1 = Int32.ofNat (48 + v % 100 / 10) := by
  unfold dgv
  rw [show p10 1 = 10 from rfl]
  exact congrArg Int32.ofNat (by omega)
theorem L_gc (a6 : Int32) : ∀ (g n v D e : Nat) (B : StB), D ≤ 2 * g + 1 → g < n → dgt v D → D + 1 ≤ e → e ≤ 16 → bz B = 16 → ok_J6_getChars_ba4f3_L22 n B (-(Int32.ofNat v)) (Int32.ofNat e) a6 ∧ ∃ m v' B', f_J6_getChars_ba4f3_L22 n B (-(Int32.ofNat v)) (Int32.ofNat e) a6 = (-(Int32.ofNat v'), Int32.ofNat (e - m), B') ∧ m ≤ D ∧ v' < 100 ∧ dgt v' (D - m) ∧ (∀ i, dgv v' i = dgv v (i + m)) ∧ CF (e - m) B B' ∧ (∀ i, i < m → ba B' 192 (e - 1 - i) = dgv v i) ∧ ∀ k, e ≤ k → ba B' 192 k = ba B 192 k := by
  intro g
  induction g with
  | zero =>
    intro n v D e B hD hn hd he he2 hz
    obtain ⟨n, rfl⟩ : ∃ q, n = q + 1 := ⟨n - 1, by omega⟩
    have hv : v < 100 := by
      apply Classical.byContradiction
      intro hc
      obtain ⟨d, hd2⟩ := dgt_big hd (by omega)
      omega
    have w := (w100 (v := v) (by omega)).mpr hv
    refine ⟨⟨fun _ => trivial, fun h9 => absurd w h9⟩, 0, v, B, ?_, by omega, hv, hd, fun i => rfl, CF_r _ B, fun i hi => by omega, fun _ _ => rfl⟩
    rw [f_J6_getChars_ba4f3_L22, if_pos w]
    rfl
  | succ g ih =>
    intro n v D e B hD hn hd he he2 hz
    obtain ⟨n, rfl⟩ : ∃ q, n = q + 1 := ⟨n - 1, by omega⟩
    have hb := p10_b (D + 1) (by have := hd.2.2; omega)
    have hlt := hd.1
    by_cases hv : v < 100
    · have w := (w100 (v := v) (by omega)).mpr hv
      refine ⟨⟨fun _ => trivial, fun h9 => absurd w h9⟩, 0, v, B, ?_, by omega, hv, hd, fun i => rfl, CF_r _ B, fun i hi => by omega, fun _ _ => rfl⟩
      rw [f_J6_getChars_ba4f3_L22, if_pos w]
      rfl
    · obtain ⟨d, rfl⟩ := dgt_big hd (by omega)
      have w : ¬ ((-100 : Int32) < -(Int32.ofNat v)) := by
        rw [w100 (by omega)]
        exact hv
      obtain ⟨hd2, _⟩ := dgt_100 hd
      have hr : v % 100 < 100 := Nat.mod_lt _ (by decide)
      obtain ⟨tO, tT⟩ := dg_tab (v % 100) hr
      have x1 : ix (Int32.ofNat (v % 100)) = v % 100 := ix_o (by omega)
      have x2 : ix (Int32.ofNat (e - 1)) = e - 1 := ix_o (by omega)
      have x3 : ix (Int32.ofNat (e - 1 - 1)) = e - 1 - 1 := ix_o (by omega)
      have o1 : Int32.ofNat e + (-1) = Int32.ofNat (e - 1) := om1 (by omega)
      have o2 : Int32.ofNat (e - 1) + (-1) = Int32.ofNat (e - 1 - 1) := om1 (by omega)
      rw [← dgv_0] at tO
      rw [← dgv_1] at tT
      have gA : CF (e - 1 - 1) B (sba (sba B 192 (e - 1) (dgv v 0)) 192 (e - 1 - 1) (dgv v 1)) := CF_t (CF_a B _ (Nat.le_refl _)) (CF_a _ _ (Nat.le_refl _)) (by omega)
      obtain ⟨r1, m, v', B', r2, r3, r4, r5, r6, r7, r8, r9⟩ := ih n (v / 100) d (e - 1 - 1) (sba (sba B 192 (e - 1) (dgv v 0)) 192 (e - 1 - 1) (dgv v 1)) (by omega) (by omega) hd2 (by omega) (by omega) hz
      refine ⟨⟨fun h9 => absurd h9 w, fun _ => ?_⟩, m + 2, v', B', ?_, by omega, r4, ?_, fun i => ?_, ?_, fun i hi => ?_, fun k hk => ?_⟩
      · intro y hy z hzz
        rw [hzz, hy, ndiv (by omega), nmod (by omega), o1, o2, x1, x2, x3, tO, tT]
        refine ⟨in_o hr (by omega), by rw [hz]; exact in_o (by omega) (by omega), ?_⟩
        intro B8 h8
        refine ⟨in_o hr (by omega), ?_, ?_⟩
        · rw [h8]
          show vp_in _ (bz B)
          rw [hz]
          exact in_o (by omega) (by omega)
        · intro B11 h11
          rw [h11, h8]
          exact r1
      · rw [f_J6_getChars_ba4f3_L22, if_neg w, nm_eq, nm_eq, ndiv (by omega), nmod (by omega), o1, o2, x1, x2, x3, tO, tT, nm_eq, nm_eq, r2]
        rw [show e - 1 - 1 - m = e - (m + 2) by omega]
      · rw [show d + 2 - (m + 2) = d - m by omega]
        exact r5
      · rw [r6, dgv_2]
        exact congrArg (dgv v) (by omega)
      · have := CF_t gA r7 (by omega)
        rw [show e - 1 - 1 - m = e - (m + 2) by omega] at this
        exact this
      · by_cases h0 : i = 0
        · subst h0
          rw [Nat.sub_zero, r9 (e - 1) (by omega), ba_sba, if_neg (by omega), ba_sba, if_pos ⟨rfl, rfl⟩]
        · by_cases h1 : i = 1
          · subst h1
            rw [r9 (e - 1 - 1) (by omega), ba_sba, if_pos ⟨rfl, rfl⟩]
          · have := r8 (i - 2) (by omega)
            rw [dgv_2, show e - 1 - 1 - 1 - (i - 2) = e - 1 - i by omega, show i - 2 + 2 = i by omega] at this
            exact this
      · rw [r9 k (by omega), ba_sba, if_neg (by omega), ba_sba, if_neg (by omega)]
theorem neg2 (v : Nat) : -(-(Int32.ofNat v)) = Int32.ofNat v := Int32.neg_neg
/-- behind the loop: what is left, and the sign -/
def gcT (z1 z2 : Int32) (B : StB) (s : Int32) : Int32 × StB := if (-9) ≤ z1 then f_J6_getChars_ba4f3_J104 (sba B 192 (ix (z2 + (-1))) (vp_nar .byte (dgO.getD (ix (-z1)) 0))) (z2 + (-1)) s else f_J6_getChars_ba4f3_J104 (sba (sba B 192 (ix (z2 + (-1))) (vp_nar .byte (dgO.getD (ix (-z1)) 0))) 192 (ix ((z2 + (-1)) + (-1))) (vp_nar .byte (dgT.getD (ix (-z1)) 0))) ((z2 + (-1)) + (-1)) s
theorem j104 {e : Nat} {B : StB} {s : Int32} (hs : s = 0 ∨ (s = 1 ∧ 0 < e)) (he : e ≤ 16) (hz : bz B = 16) : ok_J6_getChars_ba4f3_J104 B (Int32.ofNat e) s ∧ (s = 0 → f_J6_getChars_ba4f3_J104 B (Int32.ofNat e) s = (Int32.ofNat e, B)) ∧ (s = 1 → f_J6_getChars_ba4f3_J104 B (Int32.ofNat e) s = (Int32.ofNat (e - 1), sba B 192 (e - 1) 45)) := by
  refine ⟨⟨fun _ => trivial, fun h => ?_⟩, fun h => ?_, fun h => ?_⟩
  · rcases hs with h0 | ⟨h1, h2⟩
    · exact absurd h0 h
    · rw [om1 h2, hz]
      exact in_o (by omega) (by omega)
  · unfold f_J6_getChars_ba4f3_J104
    rw [if_pos h]
  · rcases hs with h0 | ⟨_, h2⟩
    · rw [h] at h0
      exact absurd h0 (by decide)
    · unfold f_J6_getChars_ba4f3_J104
      rw [if_neg (by rw [h]; decide), nm_eq, om1 h2, ix_o (by omega)]
      rfl
theorem tail_C {v D e : Nat} {B : StB} {s : Int32} (hv : v < 100) (hd : dgt v D) (hs : s = 0 ∨ (s = 1 ∧ D + 1 < e)) (hDe : D + 1 ≤ e) (he : e ≤ 16) (hz : bz B = 16) : (vp_in (-(-(Int32.ofNat v))) 100 ∧ vp_in (Int32.ofNat e + (-1)) (bz B) ∧ (∀ B27 : StB, B27 = (sba B 192 (ix (Int32.ofNat e + (-1))) (vp_nar .byte (dgO.getD (ix (-(-(Int32.ofNat v)))) 0))) → (((-9) ≤ -(Int32.ofNat v) → ok_J6_getChars_ba4f3_J104 B27 (Int32.ofNat e + (-1)) s) ∧ (¬ (-9) ≤ -(Int32.ofNat v) → (vp_in (-(-(Int32.ofNat v))) 100 ∧ (vp_in ((Int32.ofNat e + (-1)) + (-1)) (bz B27) ∧ (∀ B31 : StB, B31 = (sba B27 192 (ix ((Int32.ofNat e + (-1)) + (-1))) (vp_nar .byte (dgT.getD (ix (-(-(Int32.ofNat v)))) 0))) → ok_J6_getChars_ba4f3_J104 B31 ((Int32.ofNat e + (-1)) + (-1)) s))))))) ∧ ∃ C, (gcT (-(Int32.ofNat v)) (Int32.ofNat e) B s).2 = C ∧ CF (e - (D + 1) - (if s = 0 then 0 else 1)) B C ∧ (∀ i, i < D + 1 → ba C 192 (e - 1 - i) = dgv v i) ∧ (s = 1 → ba C 192 (e - (D + 1) - 1) = 45) ∧ ∀ k, e ≤ k → ba C 192 k = ba B 192 k := by
  have x0 : ix (-(-(Int32.ofNat v))) = v := by rw [neg2]; exact ix_o (by omega)
  have vi : vp_in (-(-(Int32.ofNat v))) 100 := by rw [neg2]; exact in_o hv (by omega)
  obtain ⟨tO, tT⟩ := dg_tab v hv
  have eO : Int32.ofNat (48 + v % 10) = dgv v 0 := by
    rw [dgv_0]
    exact congrArg Int32.ofNat (by omega)
  have eT : Int32.ofNat (48 + v / 10) = dgv v 1 := by
    rw [dgv_1]
    exact congrArg Int32.ofNat (by omega)
  rw [eO] at tO
  rw [eT] at tT
  have o1 : Int32.ofNat e + (-1) = Int32.ofNat (e - 1) := om1 (by omega)
  have x1 : ix (Int32.ofNat (e - 1)) = e - 1 := ix_o (by omega)
  have w := w9 (v := v) (by omega)
  obtain ⟨h1, h2, h3⟩ := hd
  by_cases hD : D = 0
  · subst hD
    have hv9 : v ≤ 9 := by
      have : p10 (0 + 1) = 10 := rfl
      omega
    have w' := w.mpr hv9
    obtain ⟨j1, j2, j3⟩ := j104 (e := e - 1) (B := sba B 192 (e - 1) (dgv v 0)) (s := s) (hs.imp id (fun h => ⟨h.1, by have := h.2; omega⟩)) (by omega) hz
    rw [x0, o1, x1, tO]
    refine ⟨⟨vi, by rw [hz]; exact in_o (by omega) (by omega), ?_⟩, ?_⟩
    · intro B27 h27
      rw [h27]
      exact ⟨fun _ => j1, fun h9 => absurd w' h9⟩
    · unfold gcT
      rw [x0, o1, x1, tO, if_pos w']
      rcases hs with h0 | ⟨h1, h2⟩
      · rw [j2 h0]
        refine ⟨_, rfl, ?_, fun i hi => ?_, fun h => ?_, fun k hk => ?_⟩
        · rw [if_pos h0]
          exact CF_a B _ (by omega)
        · have : i = 0 := by omega
          subst this
          rw [ba_sba, if_pos ⟨rfl, rfl⟩]
        · rw [h0] at h
          exact absurd h (by decide)
        · rw [ba_sba, if_neg (by omega)]
      · rw [j3 h1]
        refine ⟨_, rfl, ?_, fun i hi => ?_, fun _ => ?_, fun k hk => ?_⟩
        · rw [if_neg (by rw [h1]; decide)]
          exact CF_t (CF_a B _ (Nat.le_refl _)) (CF_a _ _ (by omega)) (by omega)
        · have : i = 0 := by omega
          subst this
          rw [ba_sba, if_neg (by omega), ba_sba, if_pos ⟨rfl, rfl⟩]
        · show ba (sba (sba B 192 (e - 1) (dgv v 0)) 192 (e - 1 - 1) 45) 192 (e - (0 + 1) - 1) = 45
          rw [ba_sba, if_pos ⟨rfl, rfl⟩]
        · show ba (sba (sba B 192 (e - 1) (dgv v 0)) 192 (e - 1 - 1) 45) 192 k = _
          rw [ba_sba, if_neg (by omega), ba_sba, if_neg (by omega)]
  · have hD1 : D = 1 := by
      apply Classical.byContradiction
      intro hc
      have := p10_m (show 2 ≤ D by omega)
      have e2 : p10 2 = 100 := by decide
      omega
    subst hD1
    have hv9 : ¬ v ≤ 9 := by
      have : p10 1 = 10 := rfl
      omega
    have w' := mt w.mp hv9
    have o2 : Int32.ofNat (e - 1) + (-1) = Int32.ofNat (e - 1 - 1) := om1 (by omega)
    have x2 : ix (Int32.ofNat (e - 1 - 1)) = e - 1 - 1 := ix_o (by omega)
    obtain ⟨j1, j2, j3⟩ := j104 (e := e - 1 - 1) (B := sba (sba B 192 (e - 1) (dgv v 0)) 192 (e - 1 - 1) (dgv v 1)) (s := s) (hs.imp id (fun h => ⟨h.1, by have := h.2; omega⟩)) (by omega) hz
    rw [x0, o1, x1, o2, x2, tO, tT]
    refine ⟨⟨vi, by rw [hz]; exact in_o (by omega) (by omega), ?_⟩, ?_⟩
    · intro B27 h27
      rw [h27]
      refine ⟨fun h9 => absurd h9 w', fun _ => ⟨vi, ?_, ?_⟩⟩
      · show vp_in _ (bz B)
        rw [hz]
        exact in_o (by omega) (by omega)
      · intro B31 h31
        rw [h31]
        exact j1
    · unfold gcT
      rw [x0, o1, x1, o2, x2, tO, tT, if_neg w']
      rcases hs with h0 | ⟨h1, h2⟩
      · rw [j2 h0]
        refine ⟨_, rfl, ?_, fun i hi => ?_, fun h => ?_, fun k hk => ?_⟩
        · rw [if_pos h0]
          exact CF_t (CF_a B _ (Nat.le_refl _)) (CF_a _ _ (by omega)) (by omega)
        · by_cases h0 : i = 0
          · subst h0
            rw [ba_sba, if_neg (by omega), ba_sba, if_pos ⟨rfl, rfl⟩]
          · have : i = 1 := by omega
            subst this
            rw [ba_sba, if_pos ⟨rfl, rfl⟩]
        · rw [h0] at h
          exact absurd h (by decide)
        · rw [ba_sba, if_neg (by omega), ba_sba, if_neg (by omega)]
      · rw [j3 h1]
        refine ⟨_, rfl, ?_, fun i hi => ?_, fun _ => ?_, fun k hk => ?_⟩
        · rw [if_neg (by rw [h1]; decide)]
          exact CF_t (lo' := e - (1 + 1) - 1) (CF_t (lo' := e - 1 - 1) (CF_a B _ (Nat.le_refl _)) (CF_a _ _ (Nat.le_refl _)) (by omega)) (CF_a _ _ (by omega)) (by omega)
        · by_cases h0 : i = 0
          · subst h0
            rw [ba_sba, if_neg (by omega), ba_sba, if_neg (by omega), ba_sba, if_pos ⟨rfl, rfl⟩]
          · have : i = 1 := by omega
            subst this
            rw [ba_sba, if_neg (by omega), ba_sba, if_pos ⟨rfl, rfl⟩]
        · show ba (sba (sba (sba B 192 (e - 1) (dgv v 0)) 192 (e - 1 - 1) (dgv v 1)) 192 (e - 1 - 1 - 1) 45) 192 (e - (1 + 1) - 1) = 45
          rw [ba_sba, if_pos ⟨rfl, by omega⟩]
        · show ba (sba (sba (sba B 192 (e - 1) (dgv v 0)) 192 (e - 1 - 1) (dgv v 1)) 192 (e - 1 - 1 - 1) 45) 192 k = _
          rw [ba_sba, if_neg (by omega), ba_sba, if_neg (by omega), ba_sba, if_neg (by omega)]
/-- the whole number, from its end -/
theorem chars_C {v D e : Nat} {B : StB} {x : Int32} (s : Int32) (hd : dgt v D) (hx : (0 ≤ x ∧ s = 0 ∧ x = Int32.ofNat v) ∨ (¬ 0 ≤ x ∧ s = 1 ∧ D + 1 < e ∧ x = -(Int32.ofNat v))) (hDe : D + 1 ≤ e) (he : e ≤ 16) (hz : bz B = 16) : ok_J6_getChars_ba4f3 B x (Int32.ofNat e) ∧ CF (e - (D + 1) - (if s = 0 then 0 else 1)) B (f_J6_getChars_ba4f3 B x (Int32.ofNat e)).2 ∧ (∀ i, i < D + 1 → ba (f_J6_getChars_ba4f3 B x (Int32.ofNat e)).2 192 (e - 1 - i) = dgv v i) ∧ (s = 1 → ba (f_J6_getChars_ba4f3 B x (Int32.ofNat e)).2 192 (e - (D + 1) - 1) = 45) := by
  have hfu : 4 < fu := by unfold fu; omega
  obtain ⟨r1, m, v', B', r2, r3, r4, r5, r6, r7, r8, r9⟩ := L_gc s 3 fu v D e B (by have := hd.2.2; omega) (by omega) hd hDe he hz
  clear hfu
  have hs' : s = 0 ∨ (s = 1 ∧ D - m + 1 < e - m) := by
    rcases hx with ⟨_, h, _⟩ | ⟨_, h, h2, _⟩
    · exact Or.inl h
    · exact Or.inr ⟨h, by omega⟩
  obtain ⟨t1, C, t2, t3, t4, t5, t6⟩ := tail_C (e := e - m) (B := B') (s := s) r4 r5 hs' (by omega) (by omega) (r7.1.trans hz)
  have key : f_J6_getChars_ba4f3 B x (Int32.ofNat e) = gcT (-(Int32.ofNat v')) (Int32.ofNat (e - m)) B' s := by
    unfold f_J6_getChars_ba4f3 f_J6_getChars_ba4f3_J12 gcT
    rcases hx with ⟨h1, h2, h3⟩ | ⟨h1, h2, _, h3⟩
    · subst h2
      rw [if_pos h1, if_pos rfl, nm_eq, h3, r2, nm_eq]
      rfl
    · subst h2
      rw [if_neg h1, if_neg (by decide), h3, r2, nm_eq]
      rfl
  have okk : ok_J6_getChars_ba4f3 B x (Int32.ofNat e) := by
    rcases hx with ⟨h1, h2, h3⟩ | ⟨h1, h2, _, h3⟩
    · subst h2
      refine ⟨fun _ => ⟨fun _ => ?_, fun h9 => absurd rfl h9⟩, fun h9 => absurd h1 h9⟩
      intro y hy
      rw [hy, h3]
      refine ⟨r1, ?_⟩
      intro z hz'
      rw [hz', r2]
      exact t1
    · subst h2
      refine ⟨fun h9 => absurd h9 h1, fun _ => ⟨fun h9 => absurd h9 (by decide), fun _ => ?_⟩⟩
      rw [h3]
      refine ⟨r1, ?_⟩
      intro z hz'
      rw [hz', r2]
      exact t1
  rw [key, t2]
  refine ⟨okk, ?_, fun i hi => ?_, fun h => ?_⟩
  · have := CF_t r7 t3 (by omega)
    rw [show e - m - (D - m + 1) = e - (D + 1) by omega] at this
    exact this
  · by_cases him : i < m
    · rw [t6 _ (by omega)]
      exact r8 i him
    · have := t4 (i - m) (by omega)
      rw [r6, show e - m - 1 - (i - m) = e - 1 - i by omega, show i - m + m = i by omega] at this
      exact this
  · have := t5 h
    rw [show e - m - (D - m + 1) - 1 = e - (D + 1) - 1 by omega] at this
    exact this
/-! the pure part: a statement written -/
def Wt (L : Nat) (B0 : StB) (M0 : StM) (B : StB) (M : StM) : Prop := bi B 191 3 = Int32.ofNat L ∧ bz B = 16 ∧ (∀ k, k < L → ba B 192 k = ma M 6 k ∧ 0 ≤ (ma M 6 k).toInt ∧ (ma M 6 k).toInt ≤ 127) ∧ Fg 191 193 B0 B ∧ NF 0 M0 M
theorem ens_16 : ∀ L, L < 17 → (Int32.ofNat L - (Int32.ofNat 16 >>> (0 &&& 31))) ≤ 0 := by decide +kernel
theorem ens_C {B : StB} {L : Nat} (h : bz B = 16) (hL : L ≤ 16) : f_J5_ensureCapacityInternal_d00df B (Int32.ofNat L) = B ∧ ok_J5_ensureCapacityInternal_d00df B (Int32.ofNat L) := by
  refine ⟨rfl, ?_⟩
  intro v hv
  rw [hv, h]
  exact ens_16 L (by omega)
theorem byt : ∀ x, x < 128 → vp_nar .byte ((Int32.toInt8 (Int32.ofNat x)).toInt32) = Int32.ofNat x ∧ f_J1_canEncode_fc78d (Int32.ofNat x) = 1 := by decide +kernel
theorem app_ch {L x : Nat} {B0 B : StB} {M0 M : StM} (h : Wt L B0 M0 B M) (hL : L < 16) (hx : x < 128) : ∃ C N, f_J4_append_cf468 B (Int32.ofNat x) = C ∧ ok_J4_append_cf468 B (Int32.ofNat x) ∧ f_X7_put M (Int32.ofNat L) (Int32.ofNat x) = (Int32.ofNat (L + 1), N) ∧ ok_X7_put M (Int32.ofNat L) (Int32.ofNat x) ∧ Wt (L + 1) B0 M0 C N := by
  obtain ⟨h1, h2, h3, h4, h5⟩ := h
  obtain ⟨b1, b2⟩ := byt x hx
  obtain ⟨P1, P2, P3⟩ := putM (p := L) M (Int32.ofNat x) (by omega)
  have e1 : bi B 191 3 + 1 = Int32.ofNat (L + 1) := by rw [h1, oad1]
  have xL : ix (Int32.ofNat L) = L := ix_o (by omega)
  obtain ⟨c1, c2⟩ := ens_C (L := L + 1) h2 (by omega)
  have ef : f_J4_append_cf468 B (Int32.ofNat x) = sba (sbi B 191 3 (Int32.ofNat (L + 1))) 192 L (Int32.ofNat x) := by
    unfold f_J4_append_cf468 f_J5_append_3fe6f
    rw [nm_eq, e1, c1, nm_eq, nm_eq, nm_eq, nm_eq, e1, nm_eq, h1, xL, b1]
  refine ⟨sba (sbi B 191 3 (Int32.ofNat (L + 1))) 192 L (Int32.ofNat x), sma M 6 L (Int32.ofNat x), ef, ?_, P1, P2, ?_⟩
  · show ok_J5_append_3fe6f B (Int32.ofNat x)
    refine ⟨by rw [e1]; exact c2, ?_⟩
    rw [e1, c1]
    intro B2 hB2
    rw [hB2]
    intro r hr
    refine ⟨by rw [hr]; exact (by decide : ¬ (1 : Int32) = 0), ?_⟩
    intro r5 hr5
    refine ⟨by rw [hr5, b2]; decide, ?_⟩
    intro B7 h7
    rw [h1, h7]
    show vp_in _ (bz B)
    rw [h2]
    exact in_o hL (by omega)
  · refine ⟨?_, h2, fun k hk => ?_, Fg_t h4 (Fg_a (Fg_i (Fg_r _ _ _) _ _ (by omega) (by omega)) _ _ (by omega) (by omega)), NF_t h5 P3 (by omega)⟩
    · rw [bi_sba, bi_sbi, if_pos ⟨rfl, rfl⟩]
    · rw [ba_sba, ma_sma]
      by_cases hkL : k = L
      · rw [if_pos ⟨rfl, hkL⟩, if_pos ⟨rfl, hkL⟩, ofN_toInt (by omega)]
        exact ⟨rfl, by omega, by omega⟩
      · rw [if_neg (fun hh => hkL hh.2), if_neg (fun hh => hkL hh.2), ba_sbi]
        exact h3 k (by omega)
/-- the model's number -/
theorem J15_M {L v D : Nat} {M : StM} {x : Int32} (hd : dgt v D) (hm : mabs x = Int32.ofNat v) (hL : L + (D + 1) ≤ 40) : ok_X7_writesNumber_J15 M x (Int32.ofNat L) ∧ ∃ N, f_X7_writesNumber_J15 M x (Int32.ofNat L) = (Int32.ofNat (L + (D + 1)), N) ∧ NF L M N ∧ ∀ i, i < D + 1 → ma N 6 (L + (D + 1) - 1 - i) = dgv v i := by
  have hfu : 20 < fu := by unfold fu; omega
  have hD := hd.2.2
  have hv : v < 100000000 := by
    have h1 := hd.1
    have := p10_b (D + 1) (by omega)
    omega
  obtain ⟨a1, a2⟩ := L_pow hd M (Int32.ofNat L) D fu 0 (by omega) (by omega)
  obtain ⟨b1, N, b2, b3, b4⟩ := L_dig hv (D + 1) fu L M (by omega) (by omega) (by omega)
  clear hfu
  have a1 : ok_X7_writesNumber_L25 fu M (Int32.ofNat L) (Int32.ofNat v) 1 := a1
  have a2 : f_X7_writesNumber_L25 fu M (Int32.ofNat L) (Int32.ofNat v) 1 = Int32.ofNat (p10 D) := a2
  have b1 : ok_X7_writesNumber_L49 fu M (Int32.ofNat L) (Int32.ofNat v) (Int32.ofNat (p10 D)) := b1
  have b2 : f_X7_writesNumber_L49 fu M (Int32.ofNat L) (Int32.ofNat v) (Int32.ofNat (p10 D)) = (Int32.ofNat (L + (D + 1)), N) := b2
  refine ⟨?_, N, ?_, b3, b4⟩
  · intro y hy
    rw [hy, hm]
    refine ⟨a1, ?_⟩
    intro z hz
    rw [hz, a2]
    exact b1
  · unfold f_X7_writesNumber_J15
    rw [nm_eq, hm, nm_eq, a2, nm_eq, b2]
theorem size_C {v D : Nat} {x : Int32} (s : Nat) (hd : dgt v D) (hx : (0 ≤ x ∧ s = 0 ∧ x = Int32.ofNat v) ∨ (¬ 0 ≤ x ∧ s = 1 ∧ x = -(Int32.ofNat v))) : ok_J6_stringSize_0f7a4 x ∧ f_J6_stringSize_0f7a4 x = Int32.ofNat (D + 1 + s) := by
  have hfu : 20 < fu := by unfold fu; omega
  have hD := hd.2.2
  have e10 : -(Int32.ofNat (p10 1)) = -10 := by decide
  have e1 : Int32.ofNat 1 = 1 := rfl
  have w : (x < 0) ↔ ¬ 0 ≤ x := by rw [i32_lt, i32_le]; omega
  rcases hx with ⟨h1, h2, h3⟩ | ⟨h1, h2, h3⟩
  · subst h2
    obtain ⟨r1, r2⟩ := L_size hd 0 (by omega) D fu 1 (by omega) (by omega) (by omega)
    clear hfu
    rw [e10] at r1 r2
    have wn : ¬ x < 0 := by rw [w]; exact fun h => h h1
    have r1 : ok_J6_stringSize_0f7a4_J11 (-(Int32.ofNat v)) 0 := r1
    refine ⟨⟨fun h9 => absurd h9 wn, fun _ => ?_⟩, ?_⟩
    · intro y hy
      rw [hy, h3]
      exact r1
    · unfold f_J6_stringSize_0f7a4
      rw [if_neg wn, nm_eq, h3]
      unfold f_J6_stringSize_0f7a4_J11
      exact r2
  · subst h2
    obtain ⟨r1, r2⟩ := L_size hd 1 (by omega) D fu 1 (by omega) (by omega) (by omega)
    clear hfu
    rw [e10] at r1 r2
    have wp : x < 0 := w.mpr h1
    refine ⟨⟨fun _ => ?_, fun h9 => absurd wp h9⟩, ?_⟩
    · rw [h3]
      exact r1
    · unfold f_J6_stringSize_0f7a4
      rw [if_pos wp, h3]
      unfold f_J6_stringSize_0f7a4_J11
      exact r2
theorem app_nu {L v D s : Nat} {x : Int32} {B0 B : StB} {M0 M : StM} (h : Wt L B0 M0 B M) (hd : dgt v D) (hx : (0 ≤ x ∧ s = 0 ∧ x = Int32.ofNat v) ∨ (¬ 0 ≤ x ∧ s = 1 ∧ x = -(Int32.ofNat v))) (hL : L + s + (D + 1) ≤ 16) : ∃ C N, f_J4_append_bf812 B x = C ∧ ok_J4_append_bf812 B x ∧ f_X7_writesNumber M (Int32.ofNat L) x = (Int32.ofNat (L + s + (D + 1)), N) ∧ ok_X7_writesNumber M (Int32.ofNat L) x ∧ Wt (L + s + (D + 1)) B0 M0 C N := by
  obtain ⟨h1, h2, h3, h4, h5⟩ := h
  have hD := hd.2.2
  have hb := p10_b (D + 1) (by omega)
  have hlt := hd.1
  obtain ⟨z1, z2⟩ := size_C s hd hx
  have ev : Int32.ofNat L + Int32.ofNat (D + 1 + s) = Int32.ofNat (L + s + (D + 1)) := by
    rw [oadd]
    exact congrArg Int32.ofNat (by omega)
  obtain ⟨c1, c2⟩ := ens_C (L := L + s + (D + 1)) h2 (by omega)
  have hs1 : s ≤ 1 := by
    rcases hx with ⟨_, h, _⟩ | ⟨_, h, _⟩ <;> omega
  obtain ⟨g1, g2, g3, g4⟩ := chars_C (B := B) (e := L + s + (D + 1)) (x := x) (Int32.ofNat s) hd (by
    rcases hx with ⟨p1, p2, p3⟩ | ⟨p1, p2, p3⟩
    · exact Or.inl ⟨p1, by rw [p2]; rfl, p3⟩
    · exact Or.inr ⟨p1, by rw [p2]; rfl, by omega, p3⟩) (by omega) (by omega) h2
  have ef : f_J4_append_bf812 B x = sbi (f_J6_getChars_ba4f3 B x (Int32.ofNat (L + s + (D + 1)))).2 191 3 (Int32.ofNat (L + s + (D + 1))) := by
    unfold f_J4_append_bf812 f_J5_append_c97b9
    rw [nm_eq, nm_eq, h1, nm_eq, z2, nm_eq, ev, c1, nm_eq, nm_eq, nm_eq]
    rfl
  have oC : ok_J4_append_bf812 B x := by
    show ok_J5_append_c97b9 B x
    intro v1 hv1
    refine ⟨z1, ?_⟩
    intro r3 hr3 v4 hv4
    have e4 : v4 = Int32.ofNat (L + s + (D + 1)) := by rw [hv4, hv1, hr3, h1, z2, ev]
    rw [e4]
    refine ⟨c2, ?_⟩
    rw [c1]
    intro B6 h6
    rw [h6]
    intro r hr
    exact ⟨by rw [hr]; exact (by decide : ¬ (1 : Int32) = 0), g1⟩
  generalize (f_J6_getChars_ba4f3 B x (Int32.ofNat (L + s + (D + 1)))).2 = C at g2 g3 g4 ef
  have hi0 : (Int32.ofNat s = 0) ↔ s = 0 := ofN_inj (b := 0) (by omega) (by omega)
  have elo : L + s + (D + 1) - (D + 1) - (if Int32.ofNat s = 0 then 0 else 1) = L := by
    by_cases hs0 : s = 0
    · rw [if_pos (hi0.mpr hs0)]
      omega
    · rw [if_neg (mt hi0.mp hs0)]
      omega
  rw [elo] at g2
  -- the model
  have mod : ∃ N, f_X7_writesNumber M (Int32.ofNat L) x = (Int32.ofNat (L + s + (D + 1)), N) ∧ ok_X7_writesNumber M (Int32.ofNat L) x ∧ NF L M N ∧ (∀ i, i < D + 1 → ma N 6 (L + s + (D + 1) - 1 - i) = dgv v i) ∧ (s = 1 → ma N 6 L = 45) := by
    rcases hx with ⟨p1, p2, p3⟩ | ⟨p1, p2, p3⟩
    · subst p2
      have hm : mabs x = Int32.ofNat v := by
        unfold mabs
        rw [if_pos p1, p3]
      obtain ⟨j1, N, j2, j3, j4⟩ := J15_M (M := M) (L := L) hd hm (by omega)
      refine ⟨N, ?_, ⟨fun _ => j1, fun h9 => absurd p1 h9⟩, j3, j4, fun h => absurd h (by decide)⟩
      unfold f_X7_writesNumber
      rw [if_pos p1]
      exact j2
    · subst p2
      have hm : mabs x = Int32.ofNat v := by
        unfold mabs
        rw [if_neg p1, p3, Int32.zero_sub, neg2]
      obtain ⟨P1, P2, P3⟩ := putM (p := L) M 45 (by omega)
      obtain ⟨j1, N, j2, j3, j4⟩ := J15_M (M := sma M 6 L 45) (L := L + 1) hd hm (by omega)
      refine ⟨N, ?_, ⟨fun h9 => absurd h9 p1, fun _ => ⟨P2, ?_⟩⟩, NF_t P3 j3 (by omega), j4, fun _ => ?_⟩
      · unfold f_X7_writesNumber
        rw [if_neg p1, nm_eq, P1]
        exact j2
      · intro z hz
        rw [hz, P1]
        exact j1
      · rw [j3.2.2 L (by omega), ma_sma, if_pos ⟨rfl, rfl⟩]
  obtain ⟨N, n1, n2, n3, n4, n5⟩ := mod
  refine ⟨_, N, ef, oC, n1, n2, ?_, ?_, fun k hk => ?_, ?_, NF_t h5 n3 (by omega)⟩
  · rw [bi_sbi, if_pos ⟨rfl, rfl⟩]
  · exact g2.1.trans h2
  · rw [ba_sbi]
    by_cases hkL : k < L
    · rw [g2.2.2.2 k hkL, n3.2.2 k hkL]
      exact h3 k hkL
    · by_cases hks : k < L + s
      · have hs' : s = 1 := by omega
        have hk' : k = L := by omega
        have a := g4 (by rw [hs']; rfl)
        rw [show L + s + (D + 1) - (D + 1) - 1 = L by omega] at a
        rw [hk', a, n5 hs']
        exact ⟨rfl, by decide, by decide⟩
      · have a := g3 (L + s + (D + 1) - 1 - k) (by omega)
        have b := n4 (L + s + (D + 1) - 1 - k) (by omega)
        rw [show L + s + (D + 1) - 1 - (L + s + (D + 1) - 1 - k) = k by omega] at a b
        rw [a, b]
        exact ⟨rfl, dgv_b v _⟩
  · refine Fg_t h4 (Fg_t ⟨g2.1, fun q k hq => ⟨(g2.2.1 q k).1, (g2.2.1 q k).2, g2.2.2.1 q k (by omega)⟩⟩ (Fg_i (Fg_r _ _ _) _ _ (by omega) (by omega)))
def lk : Nat → Nat
  | 0 => 67
  | 1 => 83
  | 2 => 81
  | _ => 86
theorem letK : ∀ k, k < 4 → f_J0_charAt_5068e 0 (Int32.ofNat k) = Int32.ofNat (lk k) ∧ f_X7_letterFor (Int32.ofNat k) = Int32.ofNat (lk k) ∧ lk k < 128 ∧ k < (kByt.getD 0 []).length := by decide +kernel
theorem set0 {B : StB} {sl : Nat} (h : bz B = 16) (h3 : bi B 191 3 = Int32.ofNat sl) (hs : sl ≤ 16) : ∃ C, f_J4_setLength_d00df B 0 = C ∧ ok_J4_setLength_d00df B 0 ∧ bi C 191 3 = Int32.ofNat 0 ∧ bz C = 16 ∧ Fg 191 193 B C := by
  obtain ⟨c1, c2⟩ := ens_C (L := 0) h (by omega)
  have c1 : f_J5_ensureCapacityInternal_d00df B 0 = B := c1
  have c2 : ok_J5_ensureCapacityInternal_d00df B 0 := c2
  have ge : (0 : Int32) ≤ bi B 191 3 := by
    rw [h3]
    exact ge_0 (by omega)
  have ok : ok_J4_setLength_d00df B 0 := by
    refine ⟨by decide, c2, ?_⟩
    intro B3 hB
    rw [hB, c1]
    exact ge
  by_cases c : bi B 191 3 ≤ 0
  · refine ⟨sbi B 191 3 0, ?_, ok, by rw [bi_sbi, if_pos ⟨rfl, rfl⟩]; rfl, h, Fg_i (Fg_r _ _ _) _ _ (by omega) (by omega)⟩
    unfold f_J4_setLength_d00df f_J5_setLength_d00df
    rw [nm_eq, nm_eq, c1, if_pos c, nm_eq]
  · refine ⟨sbi (sbi B 191 2 1) 191 3 0, ?_, ok, by rw [bi_sbi, if_pos ⟨rfl, rfl⟩]; rfl, h, Fg_i (Fg_i (Fg_r _ _ _) _ _ (by omega) (by omega)) _ _ (by omega) (by omega)⟩
    unfold f_J4_setLength_d00df f_J5_setLength_d00df
    rw [nm_eq, nm_eq, c1, if_neg c, nm_eq, nm_eq]
theorem bal_d {x : Int32} (h1 : -500 ≤ x.toInt) (h2 : x.toInt < 100000000) : ∃ v D s, dgt v D ∧ ((0 ≤ x ∧ s = 0 ∧ x = Int32.ofNat v) ∨ (¬ 0 ≤ x ∧ s = 1 ∧ x = -(Int32.ofNat v))) ∧ s + (D + 1) ≤ 8 := by
  by_cases c : 0 ≤ x
  · have c' := c
    rw [i32_le, lit.1] at c'
    obtain ⟨v, hv, e⟩ := of_rng (x := x) (n := 100000000) c' h2
    obtain ⟨D, hD⟩ := dgt_ex hv
    have := hD.2.2
    exact ⟨v, D, 0, hD, Or.inl ⟨c, rfl, e⟩, by omega⟩
  · have c' := c
    rw [i32_le, lit.1] at c'
    have hn : (-x).toInt = -x.toInt := i32_neg (by omega)
    obtain ⟨v, hv, e⟩ := of_rng (x := -x) (n := 501) (by omega) (by omega)
    obtain ⟨D, hD⟩ := dgt_ex (v := v) (by omega)
    have hD2 : D ≤ 2 := by
      apply Classical.byContradiction
      intro hc
      have := p10_m (show 3 ≤ D by omega)
      have e3 : p10 3 = 1000 := by decide
      have := hD.2.1
      omega
    refine ⟨v, D, 1, hD, Or.inr ⟨c, rfl, ?_⟩, by omega⟩
    rw [← e, Int32.neg_neg]
theorem lim_d {x : Int32} (h1 : 0 ≤ x.toInt) (h2 : x.toInt ≤ 500) : ∃ v D, dgt v D ∧ x = Int32.ofNat v ∧ D ≤ 2 ∧ 0 ≤ x := by
  obtain ⟨v, hv, e⟩ := of_rng (x := x) (n := 501) h1 (by omega)
  obtain ⟨D, hD⟩ := dgt_ex (v := v) (by omega)
  refine ⟨v, D, hD, e, ?_, by rw [i32_le, lit.1]; exact h1⟩
  apply Classical.byContradiction
  intro hc
  have := p10_m (show 3 ≤ D by omega)
  have e3 : p10 3 = 1000 := by decide
  have := hD.2.1
  omega
