/-! the pure part: interest, charges, transfers at the end of a day -/
theorem mn_t (x y : Int32) : (mn x y).toInt = if y.toInt < x.toInt then y.toInt else x.toInt := by
  unfold mn
  by_cases h : y < x
  · rw [if_pos h, if_pos (i32_lt.mp h)]
  · rw [if_neg h, if_neg (fun h9 => h (i32_lt.mpr h9))]
theorem mx_t (x y : Int32) : (mx x y).toInt = if x.toInt < y.toInt then y.toInt else x.toInt := by
  unfold mx
  by_cases h : x < y
  · rw [if_pos h, if_pos (i32_lt.mp h)]
  · rw [if_neg h, if_neg (fun h9 => h (i32_lt.mpr h9))]
theorem sba_self (B : StB) (p k : Nat) : sba B p k (ba B p k) = B := by
  refine Prod.ext rfl (Prod.ext rfl (Prod.ext (funext fun a => funext fun b => ?_) rfl))
  show (if a = p ∧ b = k then B.2.2.1 p k else B.2.2.1 a b) = B.2.2.1 a b
  split
  · rename_i h
    rw [h.1, h.2]
  · rfl
theorem sbi_self (B : StB) (p k : Nat) : sbi B p k (bi B p k) = B := by
  refine Prod.ext (funext fun a => funext fun b => ?_) rfl
  show (if a = p ∧ b = k then B.1 p k else B.1 a b) = B.1 a b
  split
  · rename_i h
    rw [h.1, h.2]
  · rfl
theorem sbl_self (B : StB) (p k : Nat) : sbl B p k (bl B p k) = B := by
  refine Prod.ext rfl (Prod.ext (funext fun a => funext fun b => ?_) rfl)
  show (if a = p ∧ b = k then B.2.1 p k else B.2.1 a b) = B.2.1 a b
  split
  · rename_i h
    rw [h.1, h.2]
  · rfl
/-- what an account earns, or less than 0 its charge -/
def ern (R : Nat → Int32) (i : Nat) : Int32 :=
  if R (12 + 4 * i) = 0 then (if R (13 + 4 * i) < 0 then -(mn (mx 1 (2 * ((-R (13 + 4 * i)) / 50))) (R (13 + 4 * i) + R (14 + 4 * i))) else mn (R (13 + 4 * i)) 9999 / 100)
  else if R (12 + 4 * i) = 1 then mn 30 (3 * (mn (R (13 + 4 * i)) 9999 / 100))
  else if R (12 + 4 * i) = 2 then (if R (13 + 4 * i) < 0 then -(mn 5 (R (13 + 4 * i) + R (14 + 4 * i))) else 0)
  else if R (15 + 4 * i) = 1 then 0 else 5 * (mn (R (13 + 4 * i)) 9999 / 100)
theorem ern_M {M : StM} {R : Nat → Int32} {n i : Nat} (h : R 1 = Int32.ofNat n) (hn : n ≤ 8) (hi : i < n) : f_X7_earns (rs M R) (Int32.ofNat i) = ern R i ∧ ok_X7_earns (rs M R) (Int32.ofNat i) := by
  refine ⟨?_, ?_⟩
  · simp only [f_X7_earns, f_X7_atMost, nm_eq, of_0 h hn hi, of_1 h hn hi, of_2 h hn hi, of_3 h hn hi, ern]
  · have o0 : ok_X7_of (rs M R) (Int32.ofNat i) 0 := ok_of0 h hn
    have o1 : ok_X7_of (rs M R) (Int32.ofNat i) 1 := ok_of1 h hn
    have o2 : ok_X7_of (rs M R) (Int32.ofNat i) 2 := ok_of2 h hn
    have o3 : ok_X7_of (rs M R) (Int32.ofNat i) 3 := ok_of3 h hn
    have o4 : ∀ y, ok_X7_atMost (rs M R) (Int32.ofNat i) y := fun y => ⟨o1, fun _ _ => o2⟩
    unfold ok_X7_earns
    simp only [o0, o1, o3, o4, true_and, implies_true, and_self]
theorem av_C {f n s kp c p i : Nat} {B : StB} {R : Nat → Int32} (hT : Ti f n s kp c B p R) (hi : i < n) : f_X0_available (p + 1) B (Int32.ofNat i) = R (13 + 4 * i) + R (14 + 4 * i) ∧ ok_X0_available (p + 1) B (Int32.ofNat i) := by
  have := (Ti_n hT).2.2
  have hx : ix (Int32.ofNat i) = i := ix_o (by omega)
  have hv : vp_in (Int32.ofNat i) 8 := in_o (by omega) (by omega)
  refine ⟨?_, hv, hv⟩
  unfold f_X0_available
  rw [hx, show p + 1 + 2 = p + 3 by omega, show p + 1 + 3 = p + 4 by omega, Ti_b hT hi, Ti_l hT hi]
theorem hund {b : Int32} (h : 0 ≤ b.toInt) : 0 ≤ (mn b 9999 / 100).toInt ∧ (mn b 9999 / 100).toInt ≤ 99 := by
  have l := lit
  have hm := mn_t b 9999
  have e : (mn b 9999 / 100).toInt = (mn b 9999).toInt.tdiv 100 := by
    rw [Int32.toInt_div_of_ne_right _ _ (by decide)]
    have : (100 : Int32).toInt = 100 := by decide
    rw [this]
  have h0 : 0 ≤ (mn b 9999).toInt := by
    rw [hm]
    split <;> omega
  have h1 : (mn b 9999).toInt ≤ 9999 := by
    rw [hm]
    split <;> omega
  rw [e, Int.tdiv_eq_ediv_of_nonneg h0]
  omega
/-- the kinds -/
theorem kind4 {v : Int32} (h : 0 ≤ v.toInt) (h2 : v.toInt ≤ 3) : v = 0 ∨ v = 1 ∨ v = 2 ∨ v = 3 := by
  obtain ⟨i, hi, rfl⟩ := of_rng h (n := 4) (by omega)
  match i, hi with
  | 0, _ => exact Or.inl rfl
  | 1, _ => exact Or.inr (Or.inl rfl)
  | 2, _ => exact Or.inr (Or.inr (Or.inl rfl))
  | 3, _ => exact Or.inr (Or.inr (Or.inr rfl))
theorem ern_b {n t a i : Nat} {R : Nat → Int32} (hA : bA n t a R) (hi : i < n) (hb : (R (13 + 4 * i)).toInt ≤ 100000000) : (0 ≤ (ern R i).toInt ∧ (ern R i).toInt ≤ 495 ∧ (0 ≤ (R (13 + 4 * i)).toInt ∨ (ern R i).toInt = 0)) ∨ ((ern R i).toInt < 0 ∧ -20 ≤ (ern R i).toInt ∧ -(ern R i).toInt ≤ (R (13 + 4 * i)).toInt + (R (14 + 4 * i)).toInt) := by
  have b := bA_at hA hi
  have l := lit
  have va : (R (13 + 4 * i) + R (14 + 4 * i)).toInt = (R (13 + 4 * i)).toInt + (R (14 + 4 * i)).toInt := i32_add (by omega) (by omega)
  have hh := @hund (R (13 + 4 * i))
  have hneg : ∀ v : Int32, 1 ≤ v.toInt → v.toInt ≤ 20 → ((-(mn v (R (13 + 4 * i) + R (14 + 4 * i)))).toInt = 0 ∨ ((-(mn v (R (13 + 4 * i) + R (14 + 4 * i)))).toInt < 0 ∧ -20 ≤ (-(mn v (R (13 + 4 * i) + R (14 + 4 * i)))).toInt ∧ -(-(mn v (R (13 + 4 * i) + R (14 + 4 * i)))).toInt ≤ (R (13 + 4 * i)).toInt + (R (14 + 4 * i)).toInt)) := by
    intro v v1 v2
    have hm := mn_t v (R (13 + 4 * i) + R (14 + 4 * i))
    have e : (-(mn v (R (13 + 4 * i) + R (14 + 4 * i)))).toInt = -(mn v (R (13 + 4 * i) + R (14 + 4 * i))).toInt := i32_neg (by rw [hm]; split <;> omega)
    rw [e, hm]
    split <;> omega
  have h0 : (0 : Int32) = 0 := rfl
  unfold ern
  rcases kind4 b.1 b.2.1 with hk | hk | hk | hk
  · rw [hk, if_pos rfl]
    by_cases hb0 : R (13 + 4 * i) < 0
    · rw [if_pos hb0]
      rw [i32_lt] at hb0
      have vn : (-R (13 + 4 * i)).toInt = -(R (13 + 4 * i)).toInt := i32_neg (by omega)
      have vd : ((-R (13 + 4 * i)) / 50).toInt = (-(R (13 + 4 * i)).toInt) / 50 := by
        rw [Int32.toInt_div_of_ne_right _ _ (by decide), vn]
        have : (50 : Int32).toInt = 50 := by decide
        rw [this, Int.tdiv_eq_ediv_of_nonneg (by omega)]
      have vm : (2 * ((-R (13 + 4 * i)) / 50)).toInt = 2 * ((-(R (13 + 4 * i)).toInt) / 50) := by
        have l2 : (2 : Int32).toInt = 2 := by decide
        rw [i32_mul (by rw [l2, vd]; omega) (by rw [l2, vd]; omega), l2, vd]
      have vx := mx_t 1 (2 * ((-R (13 + 4 * i)) / 50))
      have := hneg (mx 1 (2 * ((-R (13 + 4 * i)) / 50))) (by rw [vx, vm]; split <;> omega) (by rw [vx, vm]; split <;> omega)
      omega
    · rw [if_neg hb0]
      rw [i32_lt] at hb0
      have := hh (by omega)
      omega
  · rw [hk, if_neg (by decide), if_pos rfl]
    have hb0 : 0 ≤ (R (13 + 4 * i)).toInt := by
      rw [hk] at b
      have := b.2.2.2.2.2.1 (by decide)
      omega
    have h2 := hh hb0
    have l3 : (3 : Int32).toInt = 3 := by decide
    have l30 : (30 : Int32).toInt = 30 := by decide
    have v3 : (3 * (mn (R (13 + 4 * i)) 9999 / 100)).toInt = 3 * (mn (R (13 + 4 * i)) 9999 / 100).toInt := by
      rw [i32_mul (by rw [l3]; omega) (by rw [l3]; omega), l3]
    have hm := mn_t 30 (3 * (mn (R (13 + 4 * i)) 9999 / 100))
    left
    rw [hm, v3, l30]
    split <;> omega
  · rw [hk, if_neg (by decide), if_neg (by decide), if_pos rfl]
    by_cases hb0 : R (13 + 4 * i) < 0
    · rw [if_pos hb0]
      have := hneg 5 (by decide) (by decide)
      omega
    · rw [if_neg hb0]
      rw [i32_lt] at hb0
      omega
  · rw [hk, if_neg (by decide), if_neg (by decide), if_neg (by decide)]
    have hb0 : 0 ≤ (R (13 + 4 * i)).toInt := by
      rw [hk] at b
      have := b.2.2.2.2.2.1 (by decide)
      omega
    have h2 := hh hb0
    by_cases ht : R (15 + 4 * i) = 1
    · rw [if_pos ht]
      omega
    · rw [if_neg ht]
      have l5 : (5 : Int32).toInt = 5 := by decide
      have v3 : (5 * (mn (R (13 + 4 * i)) 9999 / 100)).toInt = 5 * (mn (R (13 + 4 * i)) 9999 / 100).toInt := by
        rw [i32_mul (by rw [l5]; omega) (by rw [l5]; omega), l5]
      left
      rw [v3]
      omega
theorem lne : ((0 : Int32) = 1) = False ∧ ((0 : Int32) = 2) = False ∧ ((0 : Int32) = 3) = False ∧ ((1 : Int32) = 0) = False ∧ ((1 : Int32) = 2) = False ∧ ((1 : Int32) = 3) = False ∧ ((2 : Int32) = 0) = False ∧ ((2 : Int32) = 1) = False ∧ ((2 : Int32) = 3) = False ∧ ((3 : Int32) = 0) = False ∧ ((3 : Int32) = 1) = False ∧ ((3 : Int32) = 2) = False := ⟨eq_false (by decide), eq_false (by decide), eq_false (by decide), eq_false (by decide), eq_false (by decide), eq_false (by decide), eq_false (by decide), eq_false (by decide), eq_false (by decide), eq_false (by decide), eq_false (by decide), eq_false (by decide)⟩
theorem mn_sym (x y : Int32) : mn x y = mn y x := by
  rw [i32_inj, mn_t, mn_t]
  split <;> split <;> omega
theorem ern_C {f n s kp c p i t a : Nat} {B : StB} {R : Nat → Int32} (hT : Ti f n s kp c B p R) (hA : bA n t a R) (hi : i < n) : f_X0_interest (p + 1) B (Int32.ofNat i) = ern R i ∧ ok_X0_interest (p + 1) B (Int32.ofNat i) := by
  have b := bA_at hA hi
  have l := lit
  have hn := (Ti_n hT).2.2
  have hx : ix (Int32.ofNat i) = i := ix_o (by omega)
  have hv : vp_in (Int32.ofNat i) 8 := in_o (by omega) (by omega)
  have p1 : p + 1 + 1 = p + 2 := by omega
  have p2 : p + 1 + 2 = p + 3 := by omega
  have p4 : p + 1 + 4 = p + 5 := by omega
  obtain ⟨av, oav⟩ := av_C hT hi
  have ofc : ok_X0_fullCharge (p + 1) B (Int32.ofNat i) := ⟨hv, fun _ => trivial, fun _ => hv⟩
  refine ⟨?_, ?_⟩
  · simp only [f_X0_interest, f_X0_fullCharge, nm_eq, hx, p1, p2, p4, Ti_k hT hi, Ti_b hT hi, Ti_t hT hi, av]
    have hge : ¬ R (13 + 4 * i) < 0 → 0 ≤ R (13 + 4 * i) := fun h => by
      rw [i32_lt] at h
      rw [i32_le]
      omega
    have hlt : R (13 + 4 * i) < 0 → ¬ 0 ≤ R (13 + 4 * i) := fun h h2 => by
      rw [i32_lt] at h
      rw [i32_le] at h2
      omega
    unfold ern
    rcases kind4 b.1 b.2.1 with hk | hk | hk | hk
    · by_cases hb0 : R (13 + 4 * i) < 0
      · simp only [hk, lne, if_true, if_false, if_pos hb0, if_neg (hlt hb0)]
        rw [Int32.mul_comm]
      · simp only [hk, lne, if_true, if_false, if_neg hb0, if_pos (hge hb0)]
    · have hb0 : ¬ R (13 + 4 * i) < 0 := by
        rw [hk] at b
        have := b.2.2.2.2.2.1 (by decide)
        rw [i32_lt]
        omega
      simp only [hk, lne, if_true, if_false, if_pos (hge hb0)]
      rw [mn_sym]
    · by_cases hb0 : R (13 + 4 * i) < 0
      · simp only [hk, lne, if_true, if_false, if_pos hb0, if_neg (hlt hb0)]
      · simp only [hk, lne, if_true, if_false, if_neg hb0, if_pos (hge hb0)]
    · have hb0 : ¬ R (13 + 4 * i) < 0 := by
        rw [hk] at b
        have := b.2.2.2.2.2.1 (by decide)
        rw [i32_lt]
        omega
      simp only [hk, lne, if_true, if_false, if_pos (hge hb0)]
      rcases b.2.2.1 with ht | ht
      · simp only [ht, lne, if_true, if_false]
      · simp only [ht, lne, if_true, if_false]
  · refine ⟨hv, ?_⟩
    rintro _ rfl
    refine ⟨fun _ => ?_, fun _ => ⟨ofc, ?_⟩⟩
    · rintro _ rfl
      exact ⟨hv, fun _ => trivial, fun _ => ⟨fun _ => trivial, fun _ => ⟨fun _ => trivial, fun _ => ⟨fun _ => hv, fun _ => trivial⟩⟩⟩⟩
    · rintro _ rfl
      exact oav
