/-! p51: asks about transfers, their order, nets -/
def nn (R : Nat → Int32) (a : Int32) : Nat → Int32
  | 0 => 0
  | k + 1 => if R (45 + 5 * k) = a then (if R (46 + 5 * k) = a then nn R a k + R (47 + 5 * k) else nn R a k) - R (47 + 5 * k) else (if R (46 + 5 * k) = a then nn R a k + R (47 + 5 * k) else nn R a k)
theorem L_netC {t : Nat} {B : StB} {R : Nat → Int32} (a : Int32) (h0 : bi B 6 0 = Int32.ofNat t) (ht : t ≤ 10) (hq : ∀ k, k < t → ba B 8 k = R (45 + 5 * k) ∧ ba B 9 k = R (46 + 5 * k) ∧ ba B 10 k = R (47 + 5 * k)) : ∀ (g n k : Nat), k + g = t → g < n → ok_X5_net_L4 n 6 B a (nn R a k) (Int32.ofNat k) ∧ f_X5_net_L4 n 6 B a (nn R a k) (Int32.ofNat k) = nn R a t := by
  intro g
  induction g with
  | zero =>
    intro n k hk hn
    obtain ⟨n, rfl⟩ : ∃ q, n = q + 1 := ⟨n - 1, by omega⟩
    have w : bi B 6 0 ≤ Int32.ofNat k := by
      rw [h0, le_ofN (by omega) (by omega)]
      omega
    refine ⟨⟨fun _ => trivial, fun h9 => absurd w h9⟩, ?_⟩
    rw [f_X5_net_L4, if_pos w, show k = t by omega]
  | succ g ih =>
    intro n k hk hn
    obtain ⟨n, rfl⟩ : ∃ q, n = q + 1 := ⟨n - 1, by omega⟩
    have w : ¬ bi B 6 0 ≤ Int32.ofNat k := by
      rw [h0, le_ofN (by omega) (by omega)]
      omega
    obtain ⟨q1, q2, q3⟩ := hq k (by omega)
    have hx : ix (Int32.ofNat k) = k := ix_o (by omega)
    have hv : vp_in (Int32.ofNat k) 10 := in_o (by omega) (by omega)
    obtain ⟨r1, r2⟩ := ih n (k + 1) (by omega) (by omega)
    have en : nn R a (k + 1) = if R (45 + 5 * k) = a then (if R (46 + 5 * k) = a then nn R a k + R (47 + 5 * k) else nn R a k) - R (47 + 5 * k) else (if R (46 + 5 * k) = a then nn R a k + R (47 + 5 * k) else nn R a k) := rfl
    rw [en] at r1 r2
    have q1' : ba B (6 + 2) (ix (Int32.ofNat k)) = R (45 + 5 * k) := by rw [hx]; exact q1
    have q2' : ba B (6 + 3) (ix (Int32.ofNat k)) = R (46 + 5 * k) := by rw [hx]; exact q2
    have q3' : ba B (6 + 4) (ix (Int32.ofNat k)) = R (47 + 5 * k) := by rw [hx]; exact q3
    refine ⟨⟨fun h9 => absurd h9 w, fun _ => ⟨hv, ?_⟩⟩, ?_⟩
    · rw [q1', q2', q3', oad1]
      by_cases c2 : R (46 + 5 * k) = a
      · refine ⟨fun _ => ⟨hv, ?_⟩, fun h9 => absurd c2 h9⟩
        intro v hvv
        rw [hvv]
        rw [if_pos c2] at r1
        by_cases c1 : R (45 + 5 * k) = a
        · refine ⟨hv, fun _ => ⟨hv, ?_⟩, fun h9 => absurd c1 h9⟩
          intro y hy
          rw [hy]
          rw [if_pos c1] at r1
          exact r1
        · refine ⟨hv, fun h9 => absurd h9 c1, fun _ => ?_⟩
          rw [if_neg c1] at r1
          exact r1
      · refine ⟨fun h9 => absurd h9 c2, fun _ => ⟨hv, ?_⟩⟩
        rw [if_neg c2] at r1
        by_cases c1 : R (45 + 5 * k) = a
        · refine ⟨fun _ => ⟨hv, ?_⟩, fun h9 => absurd c1 h9⟩
          intro y hy
          rw [hy]
          rw [if_pos c1] at r1
          exact r1
        · refine ⟨fun h9 => absurd h9 c1, fun _ => ?_⟩
          rw [if_neg c1] at r1
          exact r1
    · rw [f_X5_net_L4, if_neg w, q1', q2', q3', oad1]
      by_cases c2 : R (46 + 5 * k) = a
      · rw [if_pos c2, nm_eq, nm_eq]
        rw [if_pos c2] at r2
        by_cases c1 : R (45 + 5 * k) = a
        · rw [if_pos c1]
          rw [if_pos c1] at r2
          exact r2
        · rw [if_neg c1]
          rw [if_neg c1] at r2
          exact r2
      · rw [if_neg c2, nm_eq]
        rw [if_neg c2] at r2
        by_cases c1 : R (45 + 5 * k) = a
        · rw [if_pos c1]
          rw [if_pos c1] at r2
          exact r2
        · rw [if_neg c1]
          rw [if_neg c1] at r2
          exact r2
def sm (f : Nat → Int32) : Nat → Int32
  | 0 => 0
  | m + 1 => sm f m + f m
theorem i32_1 (s x a b : Int32) : s + ((a + x) - (b + x)) = s + (a - b) := by
  rw [Int32.sub_eq_add_neg, Int32.neg_add, Int32.sub_eq_add_neg, Int32.sub_eq_add_neg]
  rw [show a + x + (-b + -x) = (a + -b) + (x + -x) by ac_rfl, Int32.add_right_neg, Int32.add_zero]
theorem i32_2 (s x a b : Int32) : s + ((a + x) - b) = s + (a - b) + x := by
  rw [Int32.sub_eq_add_neg, Int32.sub_eq_add_neg]
  ac_rfl
theorem i32_3 (s x a b : Int32) : s + (a - (b + x)) = s + (a - b) - x := by
  rw [Int32.sub_eq_add_neg, Int32.sub_eq_add_neg, Int32.sub_eq_add_neg, Int32.neg_add, Int32.sub_eq_add_neg]
  ac_rfl
theorem i32_4 (s x d : Int32) : s - x + d = s + d - x := by
  rw [Int32.sub_eq_add_neg, Int32.sub_eq_add_neg]
  ac_rfl
theorem i32_5 (s x d : Int32) : s + x + d = s + d + x := by
  ac_rfl
theorem i32_6 (s x : Int32) : s + x - x = s := by
  rw [Int32.sub_eq_add_neg, Int32.add_assoc, Int32.add_right_neg, Int32.add_zero]
theorem i32_7 (s x : Int32) : s - x + x = s := by
  rw [Int32.sub_eq_add_neg, Int32.add_assoc, Int32.add_left_neg, Int32.add_zero]
theorem sm_up (T : Nat → Nat → Int32) (s r a : Nat) (x : Int32) : ∀ m, sm (fun o => (if o = s ∧ a = r then T o a + x else T o a) - (if a = s ∧ o = r then T a o + x else T a o)) m = if a = s ∧ r < m then (if a = r ∧ s < m then sm (fun o => T o a - T a o) m + x else sm (fun o => T o a - T a o) m) - x else (if a = r ∧ s < m then sm (fun o => T o a - T a o) m + x else sm (fun o => T o a - T a o) m) := by
  intro m
  induction m with
  | zero =>
    rw [if_neg (by omega), if_neg (by omega)]
    rfl
  | succ m ih =>
    show sm _ m + _ = _
    rw [ih]
    show _ + ((if m = s ∧ a = r then T m a + x else T m a) - (if a = s ∧ m = r then T a m + x else T a m)) = if a = s ∧ r < m + 1 then (if a = r ∧ s < m + 1 then sm (fun o => T o a - T a o) m + (T m a - T a m) + x else sm (fun o => T o a - T a o) m + (T m a - T a m)) - x else (if a = r ∧ s < m + 1 then sm (fun o => T o a - T a o) m + (T m a - T a m) + x else sm (fun o => T o a - T a o) m + (T m a - T a m))
    generalize sm (fun o => T o a - T a o) m = S
    generalize T m a = p
    generalize T a m = q
    by_cases has : a = s
    · by_cases har : a = r
      · by_cases h1 : m = a
        · rw [if_neg (by omega), if_neg (by omega), if_pos (by omega), if_pos (by omega), if_pos (by omega), if_pos (by omega), i32_1, i32_6]
        · by_cases h2 : a < m
          · rw [if_pos (by omega), if_pos (by omega), if_neg (by omega), if_neg (by omega), if_pos (by omega), if_pos (by omega), i32_6, i32_6]
          · rw [if_neg (by omega), if_neg (by omega), if_neg (by omega), if_neg (by omega), if_neg (by omega), if_neg (by omega)]
      · by_cases h1 : m = r
        · rw [if_neg (by omega), if_neg (by omega), if_neg (by omega), if_pos (by omega), if_pos (by omega), if_neg (by omega), i32_3]
        · by_cases h2 : r < m
          · rw [if_pos (by omega), if_neg (by omega), if_neg (by omega), if_neg (by omega), if_pos (by omega), if_neg (by omega), i32_4]
          · rw [if_neg (by omega), if_neg (by omega), if_neg (by omega), if_neg (by omega), if_neg (by omega), if_neg (by omega)]
    · by_cases har : a = r
      · by_cases h1 : m = s
        · rw [if_neg (by omega), if_neg (by omega), if_pos (by omega), if_neg (by omega), if_neg (by omega), if_pos (by omega), i32_2]
        · by_cases h2 : s < m
          · rw [if_neg (by omega), if_pos (by omega), if_neg (by omega), if_neg (by omega), if_neg (by omega), if_pos (by omega), i32_5]
          · rw [if_neg (by omega), if_neg (by omega), if_neg (by omega), if_neg (by omega), if_neg (by omega), if_neg (by omega)]
      · rw [if_neg (by omega), if_neg (by omega), if_neg (by omega), if_neg (by omega), if_neg (by omega), if_neg (by omega)]
theorem sm_cong {f g : Nat → Int32} : ∀ m, (∀ o, o < m → f o = g o) → sm f m = sm g m := by
  intro m
  induction m with
  | zero => intro _; rfl
  | succ m ih =>
    intro h
    show sm f m + f m = sm g m + g m
    rw [ih (fun o ho => h o (by omega)), h m (by omega)]
theorem L_z10 {i : Nat} (hi : i < 8) : ∀ (g n j : Nat) (B : StB), j + g = 8 → g < n → ok_X6_fillSums_L10 n B (Int32.ofNat i) (Int32.ofNat j) ∧ Fg 183 191 B (f_X6_fillSums_L10 n B (Int32.ofNat i) (Int32.ofNat j)) ∧ ∀ i' j', ba (f_X6_fillSums_L10 n B (Int32.ofNat i) (Int32.ofNat j)) (183 + i') j' = if i' = i ∧ j ≤ j' ∧ j' < 8 then 0 else ba B (183 + i') j' := by
  intro g
  induction g with
  | zero =>
    intro n j B hj hn
    obtain ⟨n, rfl⟩ : ∃ q, n = q + 1 := ⟨n - 1, by omega⟩
    have w : (8 : Int32) ≤ Int32.ofNat j := (le_ofN (a := 8) (by omega) (by omega)).mpr (by omega)
    have ef : f_X6_fillSums_L10 (n + 1) B (Int32.ofNat i) (Int32.ofNat j) = B := by rw [f_X6_fillSums_L10, if_pos w]
    rw [ef]
    refine ⟨⟨fun _ => trivial, fun h9 => absurd w h9⟩, Fg_r _ _ B, fun i' j' => ?_⟩
    rw [if_neg (by omega)]
  | succ g ih =>
    intro n j B hj hn
    obtain ⟨n, rfl⟩ : ∃ q, n = q + 1 := ⟨n - 1, by omega⟩
    have w : ¬ (8 : Int32) ≤ Int32.ofNat j := by
      rw [show (8 : Int32) = Int32.ofNat 8 from rfl, le_ofN (by omega) (by omega)]
      omega
    have hx : ix (Int32.ofNat i) = i := ix_o (by omega)
    have hxj : ix (Int32.ofNat j) = j := ix_o (by omega)
    obtain ⟨r1, r2, r3⟩ := ih n (j + 1) (sba B (183 + i) j 0) (by omega) (by omega)
    have ef : f_X6_fillSums_L10 (n + 1) B (Int32.ofNat i) (Int32.ofNat j) = f_X6_fillSums_L10 n (sba B (183 + i) j 0) (Int32.ofNat i) (Int32.ofNat (j + 1)) := by rw [f_X6_fillSums_L10, if_neg w, nm_eq, hx, hxj, oad1]
    rw [ef]
    refine ⟨⟨fun h9 => absurd h9 w, fun _ => ⟨in_o hi (by omega), in_o (by omega) (by omega), ?_⟩⟩, Fg_t (Fg_a (Fg_r _ _ _) _ _ (by omega) (by omega)) r2, fun i' j' => ?_⟩
    · intro C hC
      rw [hC, hx, hxj, oad1]
      exact r1
    · rw [r3, ba_sba]
      by_cases h1 : i' = i ∧ j' = j
      · rw [if_pos (by omega : i' = i ∧ j ≤ j' ∧ j' < 8), if_neg (by omega), if_pos (by omega)]
      · by_cases h2 : i' = i ∧ j + 1 ≤ j' ∧ j' < 8
        · rw [if_pos h2, if_pos (by omega)]
        · rw [if_neg h2, if_neg (by omega), if_neg (by omega)]
theorem L_z2 : ∀ (g n i : Nat) (B : StB), i + g = 8 → g < n → ok_X6_fillSums_L2 n B (Int32.ofNat i) ∧ Fg 183 191 B (f_X6_fillSums_L2 n B (Int32.ofNat i)) ∧ ∀ i' j', ba (f_X6_fillSums_L2 n B (Int32.ofNat i)) (183 + i') j' = if i ≤ i' ∧ i' < 8 ∧ j' < 8 then 0 else ba B (183 + i') j' := by
  intro g
  induction g with
  | zero =>
    intro n i B hj hn
    obtain ⟨n, rfl⟩ : ∃ q, n = q + 1 := ⟨n - 1, by omega⟩
    have w : (8 : Int32) ≤ Int32.ofNat i := (le_ofN (a := 8) (by omega) (by omega)).mpr (by omega)
    have ef : f_X6_fillSums_L2 (n + 1) B (Int32.ofNat i) = B := by rw [f_X6_fillSums_L2, if_pos w]
    rw [ef]
    refine ⟨⟨fun _ => trivial, fun h9 => absurd w h9⟩, Fg_r _ _ B, fun i' j' => ?_⟩
    rw [if_neg (by omega)]
  | succ g ih =>
    intro n i B hj hn
    obtain ⟨n, rfl⟩ : ∃ q, n = q + 1 := ⟨n - 1, by omega⟩
    have w : ¬ (8 : Int32) ≤ Int32.ofNat i := by
      rw [show (8 : Int32) = Int32.ofNat 8 from rfl, le_ofN (by omega) (by omega)]
      omega
    have hfu : 8 < fu := by unfold fu; omega
    have z1 := L_z10 (i := i) (by omega) 8 fu 0 B (by omega) hfu
    clear hfu
    rw [show Int32.ofNat 0 = 0 from rfl] at z1
    obtain ⟨z1, z2, z3⟩ := z1
    have ef : f_X6_fillSums_L2 (n + 1) B (Int32.ofNat i) = f_X6_fillSums_L2 n (f_X6_fillSums_L10 fu B (Int32.ofNat i) 0) (Int32.ofNat (i + 1)) := by rw [f_X6_fillSums_L2, if_neg w, nm_eq, oad1]
    rw [ef]
    have oo : ok_X6_fillSums_L2 n (f_X6_fillSums_L10 fu B (Int32.ofNat i) 0) (Int32.ofNat (i + 1)) → ok_X6_fillSums_L2 (n + 1) B (Int32.ofNat i) := by
      intro ho
      refine ⟨fun h9 => absurd h9 w, fun _ => ⟨z1, ?_⟩⟩
      intro C hC
      rw [hC, oad1]
      exact ho
    generalize f_X6_fillSums_L10 fu B (Int32.ofNat i) 0 = C at z2 z3 oo
    obtain ⟨r1, r2, r3⟩ := ih n (i + 1) C (by omega) (by omega)
    refine ⟨oo r1, Fg_t z2 r2, fun i' j' => ?_⟩
    rw [r3, z3]
    by_cases h1 : i' = i ∧ j' < 8
    · rw [if_neg (by omega), if_pos (by omega), if_pos (by omega)]
    · by_cases h2 : i + 1 ≤ i' ∧ i' < 8 ∧ j' < 8
      · rw [if_pos h2, if_pos (by omega)]
      · rw [if_neg h2, if_neg (by omega), if_neg (by omega)]
theorem nn_s (R : Nat → Int32) (a : Int32) (k : Nat) : nn R a (k + 1) = if R (45 + 5 * k) = a then (if R (46 + 5 * k) = a then nn R a k + R (47 + 5 * k) else nn R a k) - R (47 + 5 * k) else (if R (46 + 5 * k) = a then nn R a k + R (47 + 5 * k) else nn R a k) := rfl
theorem L_fill {t : Nat} {R : Nat → Int32} (ht : t ≤ 10) (hr : ∀ k, k < t → (∃ i, i < 8 ∧ R (45 + 5 * k) = Int32.ofNat i) ∧ (∃ i, i < 8 ∧ R (46 + 5 * k) = Int32.ofNat i)) : ∀ (g n k : Nat) (B : StB), k + g = t → g < n → bi B 6 0 = Int32.ofNat t → (∀ k, k < t → ba B 8 k = R (45 + 5 * k) ∧ ba B 9 k = R (46 + 5 * k) ∧ ba B 10 k = R (47 + 5 * k)) → (∀ a, a < 8 → sm (fun o => ba B (183 + o) a - ba B (183 + a) o) 8 = nn R (Int32.ofNat a) k) → ok_X6_fillSums_L47 n B (Int32.ofNat k) ∧ Fg 183 191 B (f_X6_fillSums_L47 n B (Int32.ofNat k)) ∧ (∀ a, a < 8 → sm (fun o => ba (f_X6_fillSums_L47 n B (Int32.ofNat k)) (183 + o) a - ba (f_X6_fillSums_L47 n B (Int32.ofNat k)) (183 + a) o) 8 = nn R (Int32.ofNat a) t) := by
  intro g
  induction g with
  | zero =>
    intro n k B hk hn h0 hq hs
    obtain ⟨n, rfl⟩ : ∃ q, n = q + 1 := ⟨n - 1, by omega⟩
    have w : bi B 6 0 ≤ Int32.ofNat k := by
      rw [h0, le_ofN (by omega) (by omega)]
      omega
    have ef : f_X6_fillSums_L47 (n + 1) B (Int32.ofNat k) = B := by rw [f_X6_fillSums_L47, if_pos w]
    rw [ef]
    refine ⟨⟨fun _ => trivial, fun h9 => absurd w h9⟩, Fg_r _ _ B, ?_⟩
    rw [show t = k by omega]
    exact hs
  | succ g ih =>
    intro n k B hk hn h0 hq hs
    obtain ⟨n, rfl⟩ : ∃ q, n = q + 1 := ⟨n - 1, by omega⟩
    have w : ¬ bi B 6 0 ≤ Int32.ofNat k := by
      rw [h0, le_ofN (by omega) (by omega)]
      omega
    obtain ⟨q1, q2, q3⟩ := hq k (by omega)
    obtain ⟨⟨i, hi, e1⟩, j, hj, e2⟩ := hr k (by omega)
    have hx : ix (Int32.ofNat k) = k := ix_o (by omega)
    have hxi : ix (Int32.ofNat i) = i := ix_o (by omega)
    have hxj : ix (Int32.ofNat j) = j := ix_o (by omega)
    have hv : vp_in (Int32.ofNat k) 10 := in_o (by omega) (by omega)
    have g1 : Fg 183 191 B (sba B (183 + i) j (ba B (183 + i) j + R (47 + 5 * k))) := Fg_a (Fg_r _ _ _) _ _ (by omega) (by omega)
    have T' : ∀ a o, ba (sba B (183 + i) j (ba B (183 + i) j + R (47 + 5 * k))) (183 + o) a = if o = i ∧ a = j then ba B (183 + o) a + R (47 + 5 * k) else ba B (183 + o) a := by
      intro a o
      rw [ba_sba]
      by_cases h : o = i ∧ a = j
      · rw [if_pos (by omega), if_pos h, h.1, h.2]
      · rw [if_neg (by omega), if_neg h]
    obtain ⟨r1, r2, r3⟩ := ih n (k + 1) (sba B (183 + i) j (ba B (183 + i) j + R (47 + 5 * k))) (by omega) (by omega) h0 (fun m hm => by
      refine ⟨?_, ?_, ?_⟩
      · rw [ba_sba, if_neg (by omega)]
        exact (hq m hm).1
      · rw [ba_sba, if_neg (by omega)]
        exact (hq m hm).2.1
      · rw [ba_sba, if_neg (by omega)]
        exact (hq m hm).2.2) (fun a ha => by
      have := sm_up (fun o a => ba B (183 + o) a) i j a (R (47 + 5 * k)) 8
      rw [sm_cong (g := fun o => (if o = i ∧ a = j then ba B (183 + o) a + R (47 + 5 * k) else ba B (183 + o) a) - (if a = i ∧ o = j then ba B (183 + a) o + R (47 + 5 * k) else ba B (183 + a) o)) 8 (fun o _ => by rw [T', T']), this, hs a ha, nn_s, e1, e2]
      have d1 : (Int32.ofNat i = Int32.ofNat a) ↔ i = a := ofN_inj (by omega) (by omega)
      have d2 : (Int32.ofNat j = Int32.ofNat a) ↔ j = a := ofN_inj (by omega) (by omega)
      by_cases c1 : i = a
      · rw [if_pos (by omega), if_pos (d1.mpr c1)]
        by_cases c2 : j = a
        · rw [if_pos (by omega), if_pos (d2.mpr c2)]
        · rw [if_neg (by omega), if_neg (mt d2.mp c2)]
      · rw [if_neg (by omega), if_neg (mt d1.mp c1)]
        by_cases c2 : j = a
        · rw [if_pos (by omega), if_pos (d2.mpr c2)]
        · rw [if_neg (by omega), if_neg (mt d2.mp c2)])
    have ef : f_X6_fillSums_L47 (n + 1) B (Int32.ofNat k) = f_X6_fillSums_L47 n (sba B (183 + i) j (ba B (183 + i) j + R (47 + 5 * k))) (Int32.ofNat (k + 1)) := by
      rw [f_X6_fillSums_L47, if_neg w, hx, q1, q2, q3, e1, e2, hxi, hxj, nm_eq, oad1]
    rw [ef]
    refine ⟨⟨fun h9 => absurd h9 w, fun _ => ?_⟩, Fg_t g1 r2, r3⟩
    rw [hx, q1, q2, q3, e1, e2, hxi, hxj, oad1]
    refine ⟨hv, in_o hi (by omega), hv, in_o hj (by omega), hv, in_o hj (by omega), ?_⟩
    intro C hC
    rw [hC]
    exact r1
theorem L_t13 {a : Nat} (B : StB) (ha : a < 8) : ∀ (g n o : Nat), o + g = 8 → g < n → ok_X6_netByTable_n_L13 n B (Int32.ofNat a) (sm (fun o => ba B (183 + o) a - ba B (183 + a) o) o) (Int32.ofNat o) ∧ f_X6_netByTable_n_L13 n B (Int32.ofNat a) (sm (fun o => ba B (183 + o) a - ba B (183 + a) o) o) (Int32.ofNat o) = sm (fun o => ba B (183 + o) a - ba B (183 + a) o) 8 := by
  intro g
  induction g with
  | zero =>
    intro n o hj hn
    obtain ⟨n, rfl⟩ : ∃ q, n = q + 1 := ⟨n - 1, by omega⟩
    have w : (8 : Int32) ≤ Int32.ofNat o := (le_ofN (a := 8) (by omega) (by omega)).mpr (by omega)
    refine ⟨⟨fun _ => trivial, fun h9 => absurd w h9⟩, ?_⟩
    rw [f_X6_netByTable_n_L13, if_pos w, show o = 8 by omega]
  | succ g ih =>
    intro n o hj hn
    obtain ⟨n, rfl⟩ : ∃ q, n = q + 1 := ⟨n - 1, by omega⟩
    have w : ¬ (8 : Int32) ≤ Int32.ofNat o := by
      rw [show (8 : Int32) = Int32.ofNat 8 from rfl, le_ofN (by omega) (by omega)]
      omega
    have hx : ix (Int32.ofNat a) = a := ix_o (by omega)
    have hxo : ix (Int32.ofNat o) = o := ix_o (by omega)
    have va : vp_in (Int32.ofNat a) 8 := in_o ha (by omega)
    have vo : vp_in (Int32.ofNat o) 8 := in_o (by omega) (by omega)
    obtain ⟨r1, r2⟩ := ih n (o + 1) (by omega) (by omega)
    have es : sm (fun o => ba B (183 + o) a - ba B (183 + a) o) (o + 1) = sm (fun o => ba B (183 + o) a - ba B (183 + a) o) o + (ba B (183 + o) a - ba B (183 + a) o) := rfl
    rw [es] at r1 r2
    refine ⟨⟨fun h9 => absurd h9 w, fun _ => ⟨vo, va, va, vo, ?_⟩⟩, ?_⟩
    · intro v hv
      rw [hv, hx, hxo, oad1]
      exact r1
    · rw [f_X6_netByTable_n_L13, if_neg w, nm_eq, hx, hxo, oad1]
      exact r2
theorem ask_0 {B : StB} {x2 x3 : Int32} {k : Nat} (o : ok_X6_balanceOf B x2) (f : f_X6_balanceOf B x2 = (k, 0, B)) (hk : k = 1 ∨ k = 2 ∨ k = 5) : ok_L_ask B 0 x2 x3 ∧ f_L_ask B 0 x2 x3 = (code_ask k 0, B) := by
  have hk0 : ¬ k = 0 := by omega
  refine ask_of ?_ ?_ hk
  · exact ⟨fun _ => o, fun h9 => absurd rfl h9⟩
  · unfold f_L_asked
    rw [if_pos rfl, nm_eq, f]
    exact if_neg hk0
theorem ask_1 {B : StB} {x2 x3 : Int32} {k : Nat} (o : ok_X6_accountAtRank B x2) (f : f_X6_accountAtRank B x2 = (k, 0, B)) (hk : k = 1 ∨ k = 2 ∨ k = 5) : ok_L_ask B 1 x2 x3 ∧ f_L_ask B 1 x2 x3 = (code_ask k 0, B) := by
  have hk0 : ¬ k = 0 := by omega
  refine ask_of ?_ ?_ hk
  · exact ⟨fun h9 => absurd h9 (by decide), fun _ => ⟨fun _ => o, fun h9 => absurd rfl h9⟩⟩
  · unfold f_L_asked
    rw [if_neg (by decide), if_pos rfl, nm_eq, f]
    exact if_neg hk0
theorem ask_2 {B : StB} {x2 x3 : Int32} {k : Nat} (o : ok_X6_balanceAfter B x2 x3) (f : f_X6_balanceAfter B x2 x3 = (k, 0, B)) (hk : k = 1 ∨ k = 2 ∨ k = 5) : ok_L_ask B 2 x2 x3 ∧ f_L_ask B 2 x2 x3 = (code_ask k 0, B) := by
  have hk0 : ¬ k = 0 := by omega
  refine ask_of ?_ ?_ hk
  · exact ⟨fun h9 => absurd h9 (by decide), fun _ => ⟨fun h9 => absurd h9 (by decide), fun _ => ⟨fun _ => o, fun h9 => absurd rfl h9⟩⟩⟩
  · unfold f_L_asked
    rw [if_neg (by decide), if_neg (by decide), if_pos rfl, nm_eq, f]
    exact if_neg hk0
theorem ask_3 {B : StB} {x2 x3 : Int32} {k : Nat} (o : ok_X6_transferAt B x2) (f : f_X6_transferAt B x2 = (k, 0, B)) (hk : k = 1 ∨ k = 2 ∨ k = 5) : ok_L_ask B 3 x2 x3 ∧ f_L_ask B 3 x2 x3 = (code_ask k 0, B) := by
  have hk0 : ¬ k = 0 := by omega
  refine ask_of ?_ ?_ hk
  · exact ⟨fun h9 => absurd h9 (by decide), fun _ => ⟨fun h9 => absurd h9 (by decide), fun _ => ⟨fun h9 => absurd h9 (by decide), fun _ => ⟨fun _ => o, fun h9 => absurd rfl h9⟩⟩⟩⟩
  · unfold f_L_asked
    rw [if_neg (by decide), if_neg (by decide), if_neg (by decide), if_pos rfl, nm_eq, f]
    exact if_neg hk0
theorem ask_4 {B : StB} {x2 x3 : Int32} {k : Nat} (o : ok_X6_amountOf B x2) (f : f_X6_amountOf B x2 = (k, 0, B)) (hk : k = 1 ∨ k = 2 ∨ k = 5) : ok_L_ask B 4 x2 x3 ∧ f_L_ask B 4 x2 x3 = (code_ask k 0, B) := by
  have hk0 : ¬ k = 0 := by omega
  refine ask_of ?_ ?_ hk
  · exact ⟨fun h9 => absurd h9 (by decide), fun _ => ⟨fun h9 => absurd h9 (by decide), fun _ => ⟨fun h9 => absurd h9 (by decide), fun _ => ⟨fun h9 => absurd h9 (by decide), fun _ => ⟨fun _ => o, fun h9 => absurd rfl h9⟩⟩⟩⟩⟩
  · unfold f_L_asked
    rw [if_neg (by decide), if_neg (by decide), if_neg (by decide), if_neg (by decide), if_pos rfl, nm_eq, f]
    exact if_neg hk0
theorem ask_5 {B : StB} {x2 x3 : Int32} {k : Nat} (o : ok_X6_wouldBounce B x2) (f : f_X6_wouldBounce B x2 = (k, 0, B)) (hk : k = 1 ∨ k = 2 ∨ k = 5) : ok_L_ask B 5 x2 x3 ∧ f_L_ask B 5 x2 x3 = (code_ask k 0, B) := by
  have hk0 : ¬ k = 0 := by omega
  refine ask_of ?_ ?_ hk
  · exact ⟨fun h9 => absurd h9 (by decide), fun _ => ⟨fun h9 => absurd h9 (by decide), fun _ => ⟨fun h9 => absurd h9 (by decide), fun _ => ⟨fun h9 => absurd h9 (by decide), fun _ => ⟨fun h9 => absurd h9 (by decide), fun _ => ⟨fun _ => o, fun h9 => absurd rfl h9⟩⟩⟩⟩⟩⟩
  · unfold f_L_asked
    rw [if_neg (by decide), if_neg (by decide), if_neg (by decide), if_neg (by decide), if_neg (by decide), if_pos rfl, nm_eq, f]
    exact if_neg hk0
theorem ask_6 {B : StB} {x2 x3 : Int32} {k : Nat} (o : ok_X6_netOf B x2) (f : f_X6_netOf B x2 = (k, 0, B)) (hk : k = 1 ∨ k = 2 ∨ k = 5) : ok_L_ask B 6 x2 x3 ∧ f_L_ask B 6 x2 x3 = (code_ask k 0, B) := by
  have hk0 : ¬ k = 0 := by omega
  refine ask_of ?_ ?_ hk
  · exact ⟨fun h9 => absurd h9 (by decide), fun _ => ⟨fun h9 => absurd h9 (by decide), fun _ => ⟨fun h9 => absurd h9 (by decide), fun _ => ⟨fun h9 => absurd h9 (by decide), fun _ => ⟨fun h9 => absurd h9 (by decide), fun _ => ⟨fun h9 => absurd h9 (by decide), fun _ => ⟨fun _ => o, fun h9 => absurd rfl h9⟩⟩⟩⟩⟩⟩⟩
  · unfold f_L_asked
    rw [if_neg (by decide), if_neg (by decide), if_neg (by decide), if_neg (by decide), if_neg (by decide), if_neg (by decide), if_pos rfl, nm_eq, f]
    exact if_neg hk0
theorem ask_7 {B : StB} {x2 x3 : Int32} {k : Nat} (o : ok_X6_leadsTo B x2 x3) (f : f_X6_leadsTo B x2 x3 = (k, 0, B)) (hk : k = 1 ∨ k = 2 ∨ k = 5) : ok_L_ask B 7 x2 x3 ∧ f_L_ask B 7 x2 x3 = (code_ask k 0, B) := by
  have hk0 : ¬ k = 0 := by omega
  refine ask_of ?_ ?_ hk
  · exact ⟨fun h9 => absurd h9 (by decide), fun _ => ⟨fun h9 => absurd h9 (by decide), fun _ => ⟨fun h9 => absurd h9 (by decide), fun _ => ⟨fun h9 => absurd h9 (by decide), fun _ => ⟨fun h9 => absurd h9 (by decide), fun _ => ⟨fun h9 => absurd h9 (by decide), fun _ => ⟨fun h9 => absurd h9 (by decide), fun _ => ⟨fun _ => o, fun h9 => absurd rfl h9⟩⟩⟩⟩⟩⟩⟩⟩
  · unfold f_L_asked
    rw [if_neg (by decide), if_neg (by decide), if_neg (by decide), if_neg (by decide), if_neg (by decide), if_neg (by decide), if_neg (by decide), if_pos rfl, nm_eq, f]
    exact if_neg hk0
/-! what is asked of a transfer in slot m -/
theorem reqTn {n t : Nat} {B : StB} {R : Nat → Int32} (hT : Ti 0 n 0 0 t B 0 R) (hu : uq t R) {m : Nat} (hm : m < t) : ok_X6_requireTransfer_n B (R (44 + 5 * m)) ∧ f_X6_requireTransfer_n B (R (44 + 5 * m)) = Int32.ofNat m := by
  obtain ⟨o1, c1, c2⟩ := find_C (R (44 + 5 * m)) hT hu
  have ht := (Ti_c hT).2.2.1
  have e : f_X5_find 6 B (R (44 + 5 * m)) = Int32.ofNat m := c2 m hm rfl
  refine ⟨⟨o1, ?_⟩, ?_⟩
  · intro r hr
    rw [hr, e]
    exact ⟨fun _ => trivial, fun h => h (ge_0 (by omega))⟩
  · unfold f_X6_requireTransfer_n
    rw [nm_eq, e, if_pos (ge_0 (by omega))]
theorem slot_n {n t : Nat} {B : StB} {R : Nat → Int32} (hT : Ti 0 n 0 0 t B 0 R) (hu : uq t R) {m : Nat} (hm : m < t) : (ok_X6_daysUntilDue_n B (R (44 + 5 * m)) ∧ f_X6_daysUntilDue_n B (R (44 + 5 * m)) = R (48 + 5 * m) - R 0) ∧ (ok_X6_senderOf_n B (R (44 + 5 * m)) ∧ f_X6_senderOf_n B (R (44 + 5 * m)) = R (45 + 5 * m)) ∧ (ok_X6_receiverOf_n B (R (44 + 5 * m)) ∧ f_X6_receiverOf_n B (R (44 + 5 * m)) = R (46 + 5 * m)) ∧ (ok_X6_amountOf_n B (R (44 + 5 * m)) ∧ f_X6_amountOf_n B (R (44 + 5 * m)) = R (47 + 5 * m)) := by
  obtain ⟨o, f⟩ := reqTn hT hu hm
  have ht := (Ti_c hT).2.2.1
  have hx : ix (Int32.ofNat m) = m := ix_o (by omega)
  have hv : vp_in (Int32.ofNat m) 10 := in_o (by omega) (by omega)
  have q := Ti_q hT hm
  have s := (Ti_s hT).1
  have ov : ∀ r2 : Int32, r2 = f_X6_requireTransfer_n B (R (44 + 5 * m)) → vp_in r2 10 := by
    intro r hr
    rw [hr, f]
    exact hv
  refine ⟨⟨⟨o, ov⟩, ?_⟩, ⟨⟨o, ov⟩, ?_⟩, ⟨⟨o, ov⟩, ?_⟩, ⟨⟨o, ov⟩, ?_⟩⟩
  · unfold f_X6_daysUntilDue_n
    rw [nm_eq, f, hx]
    exact congr (congrArg HSub.hSub q.2.2.2.2) s
  · unfold f_X6_senderOf_n
    rw [nm_eq, f, hx]
    exact q.2.1
  · unfold f_X6_receiverOf_n
    rw [nm_eq, f, hx]
    exact q.2.2.1
  · unfold f_X6_amountOf_n
    rw [nm_eq, f, hx]
    exact q.2.2.2.1
theorem tcn {n t : Nat} {B : StB} {R : Nat → Int32} (hT : Ti 0 n 0 0 t B 0 R) : f_X6_transferCount B = Int32.ofNat t := (Ti_c hT).1
/-- the order of two that follow one another -/
theorem tsl_ord {t k : Nat} {R : Nat → Int32} (h : k + 1 < t) : (R (48 + 5 * tsl t R k)).toInt < (R (48 + 5 * tsl t R (k + 1))).toInt ∨ ((R (48 + 5 * tsl t R k)).toInt = (R (48 + 5 * tsl t R (k + 1))).toInt ∧ tsl t R k < tsl t R (k + 1)) := by
  obtain ⟨a1, a2⟩ := ps_ok (key := fun j => -(R (48 + 5 * j)).toInt) (n := t) (m := k) (by omega)
  obtain ⟨b1, b2⟩ := ps_ok (key := fun j => -(R (48 + 5 * j)).toInt) (n := t) (m := k + 1) h
  by_cases c : (R (48 + 5 * tsl t R k)).toInt < (R (48 + 5 * tsl t R (k + 1))).toInt ∨ ((R (48 + 5 * tsl t R k)).toInt = (R (48 + 5 * tsl t R (k + 1))).toInt ∧ tsl t R k < tsl t R (k + 1))
  · exact c
  · have hne : tsl t R k ≠ tsl t R (k + 1) := by
      intro h9
      have := ps_inj (key := fun j => -(R (48 + 5 * j)).toInt) (show k < t by omega) h h9
      omega
    have := (rk_lt (fun j => -(R (48 + 5 * j)).toInt) (tsl t R (k + 1)) (tsl t R k) (by show -(R (48 + 5 * tsl t R k)).toInt < -(R (48 + 5 * tsl t R (k + 1))).toInt ∨ (-(R (48 + 5 * tsl t R (k + 1))).toInt = -(R (48 + 5 * tsl t R k)).toInt ∧ tsl t R (k + 1) < tsl t R k); omega) t).2 b1
    have a2 : rk (fun j => -(R (48 + 5 * j)).toInt) (tsl t R k) t = k := a2
    have b2 : rk (fun j => -(R (48 + 5 * j)).toInt) (tsl t R (k + 1)) t = k + 1 := b2
    omega
theorem ord_L {e n t : Nat} {B : StB} {R : Nat → Int32} (h : SS e n t B R) (a1 a2 a3 : Int32) : ∀ (g nf k : Nat), k + g = t → g < nf → Gz (fun v => v = 1) (ok_L_areTransfersRight_L98 nf B a1 a2 a3 1 (Int32.ofNat k)) (f_L_areTransfersRight_L98 nf B a1 a2 a3 1 (Int32.ofNat k)) := by
  obtain ⟨hT, hR, -⟩ := h
  have hu := bT_uq hR.2.1
  have ht : t ≤ 10 := hR.2.1.1
  have hc := tcn hT
  have hS := hR.2.2
  unfold bS at hS
  intro g
  induction g with
  | zero =>
    intro nf k hk hnf
    obtain ⟨nf, rfl⟩ : ∃ q, nf = q + 1 := ⟨nf - 1, by omega⟩
    have c : Int32.ofNat t ≤ Int32.ofNat k + 1 := by
      rw [oad1, le_ofN (by omega) (by omega)]
      omega
    unfold f_L_areTransfersRight_L98 ok_L_areTransfersRight_L98
    exact G_as hc (G_pos c ⟨trivial, rfl⟩)
  | succ g ih =>
    intro nf k hk hnf
    obtain ⟨nf, rfl⟩ : ∃ q, nf = q + 1 := ⟨nf - 1, by omega⟩
    by_cases hl : k + 1 < t
    · have c : ¬ Int32.ofNat t ≤ Int32.ofNat k + 1 := by
        rw [oad1, le_ofN (by omega) (by omega)]
        omega
      obtain ⟨o1, f1, s1⟩ := tAt hT (m := k) (by omega)
      obtain ⟨o2, f2, s2⟩ := tAt hT (m := k + 1) hl
      rw [← oad1] at o2 f2
      have od := tsl_ord (R := R) hl
      obtain ⟨⟨d1, e1⟩, -⟩ := slot_n hT hu s1
      obtain ⟨⟨d2, e2⟩, -⟩ := slot_n hT hu s2
      obtain ⟨-, -, -, -, b1, b2, -⟩ := hR.2.1.2.2.1 _ s1
      obtain ⟨-, -, -, -, b3, b4, -⟩ := hR.2.1.2.2.1 _ s2
      have v1 : (R (48 + 5 * tsl t R k) - R 0).toInt = (R (48 + 5 * tsl t R k)).toInt - (R 0).toInt := i32_sub (by omega) (by omega)
      have v2 : (R (48 + 5 * tsl t R (k + 1)) - R 0).toInt = (R (48 + 5 * tsl t R (k + 1))).toInt - (R 0).toInt := i32_sub (by omega) (by omega)
      have v3 : ((R (48 + 5 * tsl t R (k + 1)) - R 0) - (R (48 + 5 * tsl t R k) - R 0)).toInt = (R (48 + 5 * tsl t R (k + 1))).toInt - (R (48 + 5 * tsl t R k)).toInt := by
        rw [i32_sub (by omega) (by omega), v1, v2]
        omega
      have w : ¬ R (48 + 5 * tsl t R k) - R 0 < 0 := by
        rw [i32_lt, lit.1]
        omega
      have r1 := ih nf (k + 1) (by omega) (by omega)
      rw [← oad1] at r1
      unfold f_L_areTransfersRight_L98 ok_L_areTransfersRight_L98
      refine G_as hc (G_neg c (G_ka o1 f1 (G_ka o2 f2 (G_ka d2 e2 (G_ka d1 e1 (G_as rfl (G_neg (by decide) ?_)))))))
      rcases od with od | ⟨od1, od2⟩
      · refine G_pos ?_ (G_ka d1 e1 (G_neg w r1))
        rw [i32_lt, lit.1]
        omega
      · refine G_neg ?_ (G_pos ?_ (G_neg ?_ (G_ka d1 e1 (G_neg w r1))))
        · rw [i32_lt, lit.1]
          omega
        · rw [i32_inj, lit.1]
          omega
        · have := hR.2.1.2.2.2.2 _ _ od2 s2
          rw [i32_le]
          omega
    · have c : Int32.ofNat t ≤ Int32.ofNat k + 1 := by
        rw [oad1, le_ofN (by omega) (by omega)]
        omega
      unfold f_L_areTransfersRight_L98 ok_L_areTransfersRight_L98
      exact G_as hc (G_pos c ⟨trivial, rfl⟩)
/-! sums in another order -/
theorem sm_0 : ∀ n, sm (fun _ => 0) n = 0
  | 0 => rfl
  | n + 1 => by
    show sm (fun _ => 0) n + 0 = 0
    rw [sm_0 n]
    rfl
theorem sm_add (f g : Nat → Int32) : ∀ n, sm (fun i => f i + g i) n = sm f n + sm g n
  | 0 => rfl
  | n + 1 => by
    show sm (fun i => f i + g i) n + (f n + g n) = (sm f n + f n) + (sm g n + g n)
    rw [sm_add f g n]
    grind
theorem sm_one (c : Int32) (j : Nat) : ∀ n, sm (fun i => if i = j then c else 0) n = if j < n then c else 0
  | 0 => by
    rw [if_neg (by omega)]
    rfl
  | n + 1 => by
    show sm (fun i => if i = j then c else 0) n + (if n = j then c else 0) = _
    rw [sm_one c j n]
    by_cases h : n = j
    · rw [if_neg (by omega), if_pos h, if_pos (by omega)]
      grind
    · rw [if_neg h]
      by_cases h2 : j < n
      · rw [if_pos h2, if_pos (by omega)]
        grind
      · rw [if_neg h2, if_neg (by omega)]
        rfl
theorem sm_swap (F : Nat → Nat → Int32) (b : Nat) : ∀ a, sm (fun m => sm (fun i => F m i) b) a = sm (fun i => sm (fun m => F m i) a) b
  | 0 => (sm_0 b).symm
  | a + 1 => by
    show sm (fun m => sm (fun i => F m i) b) a + sm (fun i => F a i) b = sm (fun i => sm (fun m => F m i) a + F a i) b
    rw [sm_swap F b a, sm_add]
theorem sm_perm (w : Nat → Int32) (s : Nat → Nat) (n : Nat) (h1 : ∀ m, m < n → s m < n) (r : Nat → Nat) (h2 : ∀ i, i < n → r i < n ∧ s (r i) = i) (h3 : ∀ a b, a < n → b < n → s a = s b → a = b) : sm (fun m => w (s m)) n = sm w n := by
  have e1 : sm (fun m => w (s m)) n = sm (fun m => sm (fun i => if i = s m then w i else 0) n) n := by
    refine sm_cong n (fun m hm => ?_)
    have : sm (fun i => if i = s m then w i else 0) n = sm (fun i => if i = s m then w (s m) else 0) n := by
      refine sm_cong n (fun i _ => ?_)
      by_cases h : i = s m
      · rw [if_pos h, if_pos h, h]
      · rw [if_neg h, if_neg h]
    rw [this, sm_one, if_pos (h1 m hm)]
  rw [e1, sm_swap]
  refine sm_cong n (fun i hi => ?_)
  obtain ⟨a1, a2⟩ := h2 i hi
  have : sm (fun m => if i = s m then w i else 0) n = sm (fun m => if m = r i then w i else 0) n := by
    refine sm_cong n (fun m hm => ?_)
    by_cases h : m = r i
    · rw [if_pos h, if_pos (by rw [h, a2])]
    · rw [if_neg h, if_neg (fun h9 => h (h3 _ _ hm a1 (by rw [a2, ← h9])))]
  rw [this, sm_one, if_pos a1]
def nw (R : Nat → Int32) (a : Int32) (k : Nat) : Int32 := (if R (46 + 5 * k) = a then R (47 + 5 * k) else 0) - (if R (45 + 5 * k) = a then R (47 + 5 * k) else 0)
theorem nn_sm (R : Nat → Int32) (a : Int32) : ∀ k, nn R a k = sm (nw R a) k
  | 0 => rfl
  | k + 1 => by
    rw [nn_s]
    show _ = sm (nw R a) k + nw R a k
    rw [nn_sm R a k]
    unfold nw
    split <;> split <;> grind
theorem nn_ord (R : Nat → Int32) (a : Int32) (t : Nat) : sm (fun m => nw R a (tsl t R m)) t = nn R a t := by
  rw [nn_sm]
  exact sm_perm (nw R a) (tsl t R) t (fun m hm => (ps_ok hm).1) (fun i => rk (fun j => -(R (48 + 5 * j)).toInt) i t) (fun i hi => ⟨(rk_le _ i t).2 hi, ps_rk hi⟩) (fun a b ha hb h => ps_inj ha hb h)
theorem net_L {e n t : Nat} {B : StB} {R : Nat → Int32} (hT : Ti 0 n 0 0 t B 0 R) (hR : RB e (60 * e) n t 0 0 R) (a1 a2 a3 a4 a : Int32) : ∀ (g nf k : Nat), k + g = t → g < nf → Gz (fun v => v = nn R a t) (ok_L_areTransfersRight_L201 nf B a1 a2 a3 a4 a (sm (fun m => nw R a (tsl t R m)) k) (Int32.ofNat k)) (f_L_areTransfersRight_L201 nf B a1 a2 a3 a4 a (sm (fun m => nw R a (tsl t R m)) k) (Int32.ofNat k)) := by
  have hu := bT_uq hR.2.1
  have ht : t ≤ 10 := hR.2.1.1
  have hc := tcn hT
  intro g
  induction g with
  | zero =>
    intro nf k hk hnf
    obtain ⟨nf, rfl⟩ : ∃ q, nf = q + 1 := ⟨nf - 1, by omega⟩
    have c : Int32.ofNat t ≤ Int32.ofNat k := by
      rw [le_ofN (by omega) (by omega)]
      omega
    have hkt : k = t := by omega
    unfold f_L_areTransfersRight_L201 ok_L_areTransfersRight_L201
    refine G_as hc (G_pos c ⟨trivial, ?_⟩)
    rw [hkt]
    exact nn_ord R a t
  | succ g ih =>
    intro nf k hk hnf
    obtain ⟨nf, rfl⟩ : ∃ q, nf = q + 1 := ⟨nf - 1, by omega⟩
    have c : ¬ Int32.ofNat t ≤ Int32.ofNat k := by
      rw [le_ofN (by omega) (by omega)]
      omega
    obtain ⟨o1, f1, s1⟩ := tAt hT (m := k) (by omega)
    obtain ⟨-, ⟨d1, e1⟩, ⟨d2, e2⟩, ⟨d3, e3⟩⟩ := slot_n hT hu s1
    have r1 := ih nf (k + 1) (by omega) (by omega)
    rw [← oad1] at r1
    have es : sm (fun m => nw R a (tsl t R m)) (k + 1) = sm (fun m => nw R a (tsl t R m)) k + nw R a (tsl t R k) := rfl
    rw [es] at r1
    generalize sm (fun m => nw R a (tsl t R m)) k = z at r1
    unfold nw at r1
    unfold f_L_areTransfersRight_L201 ok_L_areTransfersRight_L201
    refine G_as hc (G_neg c (G_ka o1 f1 (G_ka d2 e2 ?_)))
    by_cases c1 : R (46 + 5 * tsl t R k) = a
    · rw [if_pos c1] at r1
      refine G_pos c1 (G_ka d3 e3 (G_as rfl (G_ka d1 e1 ?_)))
      by_cases c2 : R (45 + 5 * tsl t R k) = a
      · rw [if_pos c2] at r1
        refine G_pos c2 (G_ka d3 e3 (G_as ?_ r1))
        grind
      · rw [if_neg c2] at r1
        refine G_neg c2 (G_as ?_ r1)
        grind
    · rw [if_neg c1] at r1
      refine G_neg c1 (G_as rfl (G_ka d1 e1 ?_))
      by_cases c2 : R (45 + 5 * tsl t R k) = a
      · rw [if_pos c2] at r1
        refine G_pos c2 (G_ka d3 e3 (G_as ?_ r1))
        grind
      · rw [if_neg c2] at r1
        refine G_neg c2 (G_as ?_ r1)
        grind
theorem reqAn {n t a : Nat} {B : StB} {R : Nat → Int32} (hT : Ti 0 n 0 0 t B 0 R) (ha : a < n) : ok_X6_requireAccount_n B (Int32.ofNat a) := by
  have b3 := (Ti_n hT).2.2
  intro r hr
  rw [hr, has_1 (Ti_n hT).1 (by omega) (o_acc ha b3)]
  exact ⟨fun h9 => absurd h9 (by decide), fun _ => trivial⟩
theorem netof_n {e n t a : Nat} {B : StB} {R : Nat → Int32} (hT : Ti 0 n 0 0 t B 0 R) (hR : RB e (60 * e) n t 0 0 R) (ha : a < n) : ok_X6_netOf_n B (Int32.ofNat a) ∧ f_X6_netOf_n B (Int32.ofNat a) = nn R (Int32.ofNat a) t := by
  have ht : t ≤ 10 := hR.2.1.1
  have hfu : t < fu := by unfold fu; omega
  obtain ⟨k1, k2⟩ := L_netC (B := B) (R := R) (Int32.ofNat a) (Ti_c hT).1 ht (fun k hk => ⟨(Ti_q hT hk).2.1, (Ti_q hT hk).2.2.1, (Ti_q hT hk).2.2.2.1⟩) t fu 0 (by omega) hfu
  clear hfu
  have k1' : ok_X5_net_L4 fu 6 B (Int32.ofNat a) 0 0 := k1
  have k2' : f_X5_net_L4 fu 6 B (Int32.ofNat a) 0 0 = nn R (Int32.ofNat a) t := k2
  refine ⟨⟨reqAn hT ha, k1'⟩, ?_⟩
  unfold f_X6_netOf_n
  rw [nm_eq]
  unfold f_X5_net
  rw [nm_eq]
  exact k2'
theorem tab_n {e n t a : Nat} {B : StB} {R : Nat → Int32} (hT : Ti 0 n 0 0 t B 0 R) (hR : RB e (60 * e) n t 0 0 R) (ha : a < n) : ok_X6_netByTable_n B (Int32.ofNat a) ∧ (f_X6_netByTable_n B (Int32.ofNat a)).1 = nn R (Int32.ofNat a) t ∧ Fg 183 191 B (f_X6_netByTable_n B (Int32.ofNat a)).2 := by
  have ht : t ≤ 10 := hR.2.1.1
  have hn : n ≤ 8 := hR.1.1
  have hfu : 10 < fu := by unfold fu; omega
  have z := L_z2 8 fu 0 B (by omega) (by omega)
  rw [show Int32.ofNat 0 = 0 from rfl] at z
  obtain ⟨z1, z2, z3⟩ := z
  have eF : f_X6_fillSums B = f_X6_fillSums_L47 fu (f_X6_fillSums_L2 fu B 0) 0 := by
    unfold f_X6_fillSums
    rw [nm_eq, nm_eq]
  have oF : ok_X6_fillSums_L47 fu (f_X6_fillSums_L2 fu B 0) 0 → ok_X6_fillSums B := by
    intro ho
    refine ⟨z1, ?_⟩
    intro y hy
    rw [hy]
    exact ho
  generalize f_X6_fillSums_L2 fu B 0 = C at z2 z3 eF oF
  have hz : ∀ a, a < 8 → sm (fun o => ba C (183 + o) a - ba C (183 + a) o) 8 = nn R (Int32.ofNat a) 0 := by
    intro a ha
    rw [sm_cong (g := fun _ => 0) 8 (fun o ho => by
      rw [z3, z3, if_pos (by omega), if_pos (by omega)]
      rfl)]
    rfl
  have f := L_fill (R := R) ht (fun k hk => by
    obtain ⟨⟨i, hi, e1⟩, ⟨j, hj, e2⟩, _⟩ := hR.2.1.2.2.1 k hk
    exact ⟨⟨i, by omega, e1⟩, j, by omega, e2⟩) t fu 0 C (by omega) (by omega) ((z2.2 6 0 (by omega)).1.trans (Ti_c hT).1) (fun k hk => ⟨(z2.2 8 k (by omega)).2.2.trans (Ti_q hT hk).2.1, (z2.2 9 k (by omega)).2.2.trans (Ti_q hT hk).2.2.1, (z2.2 10 k (by omega)).2.2.trans (Ti_q hT hk).2.2.2.1⟩) hz
  rw [show Int32.ofNat 0 = 0 from rfl, ← eF] at f
  obtain ⟨f1, f2, f3⟩ := f
  have oFF := oF f1
  have gD := Fg_t z2 f2
  clear oF z1 z2 z3 hz f1 f2 eF
  generalize hD : f_X6_fillSums B = D at f3 gD
  obtain ⟨l1, l2⟩ := L_t13 (a := a) D (by omega) 8 fu 0 (by omega) (by omega)
  have l1' : ok_X6_netByTable_n_L13 fu D (Int32.ofNat a) 0 0 := l1
  have l2' : f_X6_netByTable_n_L13 fu D (Int32.ofNat a) 0 0 = nn R (Int32.ofNat a) t := l2.trans (f3 a (by omega))
  clear hfu
  have ef : f_X6_netByTable_n B (Int32.ofNat a) = (nn R (Int32.ofNat a) t, D) := by
    unfold f_X6_netByTable_n
    rw [nm_eq, hD, nm_eq, l2']
  rw [ef]
  refine ⟨⟨reqAn hT ha, oFF, ?_⟩, rfl, gD⟩
  intro D' hD'
  have e' : D' = D := hD'.trans hD
  rw [e']
  exact l1'
theorem SS_Fg {e n t lo hi : Nat} {B C : StB} {R : Nat → Int32} (h : SS e n t B R) (g : Fg lo hi B C) (hg : 16 ≤ lo) (h1 : hi ≤ 177 ∨ (178 ≤ lo ∧ hi ≤ 191) ∨ 192 ≤ lo) : SS e n t C R := by
  obtain ⟨hT, hR, hX, hz, ⟨hl, hn, a1, a2, a3, a4⟩, sl, s1, s2⟩ := h
  exact ⟨Ti_Fg hT g (by omega), hR, hX, g.1.trans hz, ⟨hl, hn, a1, a2, (g.2 177 0 (by omega)).1.trans a3, (g.2 177 1 (by omega)).1.trans a4⟩, sl, s1, (g.2 191 3 (by omega)).1.trans s2⟩
theorem nets_L {e n t : Nat} {R : Nat → Int32} (a1 a2 : Int32) : ∀ (g nf k : Nat) (B : StB), k + g = n → g < nf → SS e n t B R → Gz (fun z => z.1 = (1 : Int32) ∧ SS e n t z.2 R) (ok_L_areTransfersRight_L189 nf B a1 a2 (Int32.ofNat n) 1 (Int32.ofNat k)) (f_L_areTransfersRight_L189 nf B a1 a2 (Int32.ofNat n) 1 (Int32.ofNat k)) := by
  intro g
  induction g with
  | zero =>
    intro nf k B hk hnf h
    obtain ⟨nf, rfl⟩ : ∃ q, nf = q + 1 := ⟨nf - 1, by omega⟩
    have hn : n ≤ 8 := h.2.1.1.1
    have c : Int32.ofNat n ≤ Int32.ofNat k := by
      rw [le_ofN (by omega) (by omega)]
      omega
    unfold f_L_areTransfersRight_L189 ok_L_areTransfersRight_L189
    exact G_pos c ⟨trivial, rfl, h⟩
  | succ g ih =>
    intro nf k B hk hnf h
    obtain ⟨nf, rfl⟩ : ∃ q, nf = q + 1 := ⟨nf - 1, by omega⟩
    have hn : n ≤ 8 := h.2.1.1.1
    have ht : t ≤ 10 := h.2.1.2.1.1
    have c : ¬ Int32.ofNat n ≤ Int32.ofNat k := by
      rw [le_ofN (by omega) (by omega)]
      omega
    obtain ⟨n1, n2⟩ := net_L h.1 h.2.1 a1 a2 (Int32.ofNat n) 1 (Int32.ofNat k) t 20 0 (by omega) (by omega)
    obtain ⟨m1, m2⟩ := netof_n h.1 h.2.1 (a := k) (by omega)
    obtain ⟨l1, l2, l3⟩ := tab_n h.1 h.2.1 (a := k) (by omega)
    have r1 := ih nf (k + 1) (f_X6_netByTable_n B (Int32.ofNat k)).2 (by omega) (by omega) (SS_Fg h l3 (by omega) (by omega))
    rw [← oad1] at r1
    unfold f_L_areTransfersRight_L189 ok_L_areTransfersRight_L189
    exact G_neg c (G_ka n1 n2 (G_neg (by decide) (G_ka m1 m2 (G_pos rfl (G_ka l1 rfl (G_pos l2 r1))))))
