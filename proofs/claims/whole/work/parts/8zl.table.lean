/-! the pure part: net amounts by the table -/
def sm (f : Nat → Int32) : Nat → Int32
  | 0 => 0
  | m + 1 => sm f m + f m
theorem i32_1 (s x a b : Int32) : s + ((a + x) - (b + x)) = s + (a - b) := by
  rw [Int32.sub_eq_add_neg, Int32.neg_add, Int32.sub_eq_add_neg, Int32.sub_eq_add_neg]
  rw [show a + x + (-b + -x) = (a + -b) + (x + -x) by ac_rfl, Int32.add_right_neg, Int32.add_zero]
theorem i32_2 (s x a b : Int32) : s + ((a + x) - b) = s + (a - b) + x := by
  rw [Int32.sub_eq_add_neg, Int32.sub_eq_add_neg]
  ac_rfl
theorem i32_3 (s x a b : Int32) : s + (a - (b + x)) = s + (a - b) - x := by
  rw [Int32.sub_eq_add_neg, Int32.sub_eq_add_neg, Int32.sub_eq_add_neg, Int32.neg_add, Int32.sub_eq_add_neg]
  ac_rfl
theorem i32_4 (s x d : Int32) : s - x + d = s + d - x := by
  rw [Int32.sub_eq_add_neg, Int32.sub_eq_add_neg]
  ac_rfl
theorem i32_5 (s x d : Int32) : s + x + d = s + d + x := by
  ac_rfl
theorem i32_6 (s x : Int32) : s + x - x = s := by
  rw [Int32.sub_eq_add_neg, Int32.add_assoc, Int32.add_right_neg, Int32.add_zero]
theorem i32_7 (s x : Int32) : s - x + x = s := by
  rw [Int32.sub_eq_add_neg, Int32.add_assoc, Int32.add_left_neg, Int32.add_zero]
/-- one more amount in the table -/
theorem sm_up (T : Nat → Nat → Int32) (s r a : Nat) (x : Int32) : ∀ m, sm (fun o => (if o = s ∧ a = r then T o a + x else T o a) - (if a = s ∧ o = r then T a o + x else T a o)) m = if a = s ∧ r < m then (if a = r ∧ s < m then sm (fun o => T o a - T a o) m + x else sm (fun o => T o a - T a o) m) - x else (if a = r ∧ s < m then sm (fun o => T o a - T a o) m + x else sm (fun o => T o a - T a o) m) := by
  intro m
  induction m with
  | zero =>
    rw [if_neg (by omega), if_neg (by omega)]
    rfl
  | succ m ih =>
    show sm _ m + _ = _
    rw [ih]
    show _ + ((if m = s ∧ a = r then T m a + x else T m a) - (if a = s ∧ m = r then T a m + x else T a m)) = if a = s ∧ r < m + 1 then (if a = r ∧ s < m + 1 then sm (fun o => T o a - T a o) m + (T m a - T a m) + x else sm (fun o => T o a - T a o) m + (T m a - T a m)) - x else (if a = r ∧ s < m + 1 then sm (fun o => T o a - T a o) m + (T m a - T a m) + x else sm (fun o => T o a - T a o) m + (T m a - T a m))
    generalize sm (fun o => T o a - T a o) m = S
    generalize T m a = p
    generalize T a m = q
    by_cases has : a = s
    · by_cases har : a = r
      · by_cases h1 : m = a
        · rw [if_neg (by omega), if_neg (by omega), if_pos (by omega), if_pos (by omega), if_pos (by omega), if_pos (by omega), i32_1, i32_6]
        · by_cases h2 : a < m
          · rw [if_pos (by omega), if_pos (by omega), if_neg (by omega), if_neg (by omega), if_pos (by omega), if_pos (by omega), i32_6, i32_6]
          · rw [if_neg (by omega), if_neg (by omega), if_neg (by omega), if_neg (by omega), if_neg (by omega), if_neg (by omega)]
      · by_cases h1 : m = r
        · rw [if_neg (by omega), if_neg (by omega), if_neg (by omega), if_pos (by omega), if_pos (by omega), if_neg (by omega), i32_3]
        · by_cases h2 : r < m
          · rw [if_pos (by omega), if_neg (by omega), if_neg (by omega), if_neg (by omega), if_pos (by omega), if_neg (by omega), i32_4]
          · rw [if_neg (by omega), if_neg (by omega), if_neg (by omega), if_neg (by omega), if_neg (by omega), if_neg (by omega)]
    · by_cases har : a = r
      · by_cases h1 : m = s
        · rw [if_neg (by omega), if_neg (by omega), if_pos (by omega), if_neg (by omega), if_neg (by omega), if_pos (by omega), i32_2]
        · by_cases h2 : s < m
          · rw [if_neg (by omega), if_pos (by omega), if_neg (by omega), if_neg (by omega), if_neg (by omega), if_pos (by omega), i32_5]
          · rw [if_neg (by omega), if_neg (by omega), if_neg (by omega), if_neg (by omega), if_neg (by omega), if_neg (by omega)]
      · rw [if_neg (by omega), if_neg (by omega), if_neg (by omega), if_neg (by omega), if_neg (by omega), if_neg (by omega)]
theorem sm_cong {f g : Nat → Int32} : ∀ m, (∀ o, o < m → f o = g o) → sm f m = sm g m := by
  intro m
  induction m with
  | zero => intro _; rfl
  | succ m ih =>
    intro h
    show sm f m + f m = sm g m + g m
    rw [ih (fun o ho => h o (by omega)), h m (by omega)]
theorem L_z10 {i : Nat} (hi : i < 8) : ∀ (g n j : Nat) (B : StB), j + g = 8 → g < n → ok_X6_fillSums_L10 n B (Int32.ofNat i) (Int32.ofNat j) ∧ Fg 183 191 B (f_X6_fillSums_L10 n B (Int32.ofNat i) (Int32.ofNat j)) ∧ ∀ i' j', ba (f_X6_fillSums_L10 n B (Int32.ofNat i) (Int32.ofNat j)) (183 + i') j' = if i' = i ∧ j ≤ j' ∧ j' < 8 then 0 else ba B (183 + i') j' := by
  intro g
  induction g with
  | zero =>
    intro n j B hj hn
    obtain ⟨n, rfl⟩ : ∃ q, n = q + 1 := ⟨n - 1, by omega⟩
    have w : (8 : Int32) ≤ Int32.ofNat j := (le_ofN (a := 8) (by omega) (by omega)).mpr (by omega)
    have ef : f_X6_fillSums_L10 (n + 1) B (Int32.ofNat i) (Int32.ofNat j) = B := by rw [f_X6_fillSums_L10, if_pos w]
    rw [ef]
    refine ⟨⟨fun _ => trivial, fun h9 => absurd w h9⟩, Fg_r _ _ B, fun i' j' => ?_⟩
    rw [if_neg (by omega)]
  | succ g ih =>
    intro n j B hj hn
    obtain ⟨n, rfl⟩ : ∃ q, n = q + 1 := ⟨n - 1, by omega⟩
    have w : ¬ (8 : Int32) ≤ Int32.ofNat j := by
      rw [show (8 : Int32) = Int32.ofNat 8 from rfl, le_ofN (by omega) (by omega)]
      omega
    have hx : ix (Int32.ofNat i) = i := ix_o (by omega)
    have hxj : ix (Int32.ofNat j) = j := ix_o (by omega)
    obtain ⟨r1, r2, r3⟩ := ih n (j + 1) (sba B (183 + i) j 0) (by omega) (by omega)
    have ef : f_X6_fillSums_L10 (n + 1) B (Int32.ofNat i) (Int32.ofNat j) = f_X6_fillSums_L10 n (sba B (183 + i) j 0) (Int32.ofNat i) (Int32.ofNat (j + 1)) := by rw [f_X6_fillSums_L10, if_neg w, nm_eq, hx, hxj, oad1]
    rw [ef]
    refine ⟨⟨fun h9 => absurd h9 w, fun _ => ⟨in_o hi (by omega), in_o (by omega) (by omega), ?_⟩⟩, Fg_t (Fg_a (Fg_r _ _ _) _ _ (by omega) (by omega)) r2, fun i' j' => ?_⟩
    · intro C hC
      rw [hC, hx, hxj, oad1]
      exact r1
    · rw [r3, ba_sba]
      by_cases h1 : i' = i ∧ j' = j
      · rw [if_pos (by omega : i' = i ∧ j ≤ j' ∧ j' < 8), if_neg (by omega), if_pos (by omega)]
      · by_cases h2 : i' = i ∧ j + 1 ≤ j' ∧ j' < 8
        · rw [if_pos h2, if_pos (by omega)]
        · rw [if_neg h2, if_neg (by omega), if_neg (by omega)]
theorem L_z2 : ∀ (g n i : Nat) (B : StB), i + g = 8 → g < n → ok_X6_fillSums_L2 n B (Int32.ofNat i) ∧ Fg 183 191 B (f_X6_fillSums_L2 n B (Int32.ofNat i)) ∧ ∀ i' j', ba (f_X6_fillSums_L2 n B (Int32.ofNat i)) (183 + i') j' = if i ≤ i' ∧ i' < 8 ∧ j' < 8 then 0 else ba B (183 + i') j' := by
  intro g
  induction g with
  | zero =>
    intro n i B hj hn
    obtain ⟨n, rfl⟩ : ∃ q, n = q + 1 := ⟨n - 1, by omega⟩
    have w : (8 : Int32) ≤ Int32.ofNat i := (le_ofN (a := 8) (by omega) (by omega)).mpr (by omega)
    have ef : f_X6_fillSums_L2 (n + 1) B (Int32.ofNat i) = B := by rw [f_X6_fillSums_L2, if_pos w]
    rw [ef]
    refine ⟨⟨fun _ => trivial, fun h9 => absurd w h9⟩, Fg_r _ _ B, fun i' j' => ?_⟩
    rw [if_neg (by omega)]
  | succ g ih =>
    intro n i B hj hn
    obtain ⟨n, rfl⟩ : ∃ q, n = q + 1 := ⟨n - 1, by omega⟩
    have w : ¬ (8 : Int32) ≤ Int32.ofNat i := by
      rw [show (8 : Int32) = Int32.ofNat 8 from rfl, le_ofN (by omega) (by omega)]
      omega
    have hfu : 8 < fu := by unfold fu; omega
    have z1 := L_z10 (i := i) (by omega) 8 fu 0 B (by omega) hfu
    clear hfu
    rw [show Int32.ofNat 0 = 0 from rfl] at z1
    obtain ⟨z1, z2, z3⟩ := z1
    have ef : f_X6_fillSums_L2 (n + 1) B (Int32.ofNat i) = f_X6_fillSums_L2 n (f_X6_fillSums_L10 fu B (Int32.ofNat i) 0) (Int32.ofNat (i + 1)) := by rw [f_X6_fillSums_L2, if_neg w, nm_eq, oad1]
    rw [ef]
    have oo : ok_X6_fillSums_L2 n (f_X6_fillSums_L10 fu B (Int32.ofNat i) 0) (Int32.ofNat (i + 1)) → ok_X6_fillSums_L2 (n + 1) B (Int32.ofNat i) := by
      intro ho
      refine ⟨fun h9 => absurd h9 w, fun _ => ⟨z1, ?_⟩⟩
      intro C hC
      rw [hC, oad1]
      exact ho
    generalize f_X6_fillSums_L10 fu B (Int32.ofNat i) 0 = C at z2 z3 oo
    obtain ⟨r1, r2, r3⟩ := ih n (i + 1) C (by omega) (by omega)
    refine ⟨oo r1, Fg_t z2 r2, fun i' j' => ?_⟩
    rw [r3, z3]
    by_cases h1 : i' = i ∧ j' < 8
    · rw [if_neg (by omega), if_pos (by omega), if_pos (by omega)]
    · by_cases h2 : i + 1 ≤ i' ∧ i' < 8 ∧ j' < 8
      · rw [if_pos h2, if_pos (by omega)]
      · rw [if_neg h2, if_neg (by omega), if_neg (by omega)]
theorem nn_s (R : Nat → Int32) (a : Int32) (k : Nat) : nn R a (k + 1) = if R (45 + 5 * k) = a then (if R (46 + 5 * k) = a then nn R a k + R (47 + 5 * k) else nn R a k) - R (47 + 5 * k) else (if R (46 + 5 * k) = a then nn R a k + R (47 + 5 * k) else nn R a k) := rfl
theorem L_fill {t : Nat} {R : Nat → Int32} (ht : t ≤ 10) (hr : ∀ k, k < t → (∃ i, i < 8 ∧ R (45 + 5 * k) = Int32.ofNat i) ∧ (∃ i, i < 8 ∧ R (46 + 5 * k) = Int32.ofNat i)) : ∀ (g n k : Nat) (B : StB), k + g = t → g < n → bi B 6 0 = Int32.ofNat t → (∀ k, k < t → ba B 8 k = R (45 + 5 * k) ∧ ba B 9 k = R (46 + 5 * k) ∧ ba B 10 k = R (47 + 5 * k)) → (∀ a, a < 8 → sm (fun o => ba B (183 + o) a - ba B (183 + a) o) 8 = nn R (Int32.ofNat a) k) → ok_X6_fillSums_L47 n B (Int32.ofNat k) ∧ Fg 183 191 B (f_X6_fillSums_L47 n B (Int32.ofNat k)) ∧ (∀ a, a < 8 → sm (fun o => ba (f_X6_fillSums_L47 n B (Int32.ofNat k)) (183 + o) a - ba (f_X6_fillSums_L47 n B (Int32.ofNat k)) (183 + a) o) 8 = nn R (Int32.ofNat a) t) := by
  intro g
  induction g with
  | zero =>
    intro n k B hk hn h0 hq hs
    obtain ⟨n, rfl⟩ : ∃ q, n = q + 1 := ⟨n - 1, by omega⟩
    have w : bi B 6 0 ≤ Int32.ofNat k := by
      rw [h0, le_ofN (by omega) (by omega)]
      omega
    have ef : f_X6_fillSums_L47 (n + 1) B (Int32.ofNat k) = B := by rw [f_X6_fillSums_L47, if_pos w]
    rw [ef]
    refine ⟨⟨fun _ => trivial, fun h9 => absurd w h9⟩, Fg_r _ _ B, ?_⟩
    rw [show t = k by omega]
    exact hs
  | succ g ih =>
    intro n k B hk hn h0 hq hs
    obtain ⟨n, rfl⟩ : ∃ q, n = q + 1 := ⟨n - 1, by omega⟩
    have w : ¬ bi B 6 0 ≤ Int32.ofNat k := by
      rw [h0, le_ofN (by omega) (by omega)]
      omega
    obtain ⟨q1, q2, q3⟩ := hq k (by omega)
    obtain ⟨⟨i, hi, e1⟩, j, hj, e2⟩ := hr k (by omega)
    have hx : ix (Int32.ofNat k) = k := ix_o (by omega)
    have hxi : ix (Int32.ofNat i) = i := ix_o (by omega)
    have hxj : ix (Int32.ofNat j) = j := ix_o (by omega)
    have hv : vp_in (Int32.ofNat k) 10 := in_o (by omega) (by omega)
    have g1 : Fg 183 191 B (sba B (183 + i) j (ba B (183 + i) j + R (47 + 5 * k))) := Fg_a (Fg_r _ _ _) _ _ (by omega) (by omega)
    have T' : ∀ a o, ba (sba B (183 + i) j (ba B (183 + i) j + R (47 + 5 * k))) (183 + o) a = if o = i ∧ a = j then ba B (183 + o) a + R (47 + 5 * k) else ba B (183 + o) a := by
      intro a o
      rw [ba_sba]
      by_cases h : o = i ∧ a = j
      · rw [if_pos (by omega), if_pos h, h.1, h.2]
      · rw [if_neg (by omega), if_neg h]
    obtain ⟨r1, r2, r3⟩ := ih n (k + 1) (sba B (183 + i) j (ba B (183 + i) j + R (47 + 5 * k))) (by omega) (by omega) h0 (fun m hm => by
      refine ⟨?_, ?_, ?_⟩
      · rw [ba_sba, if_neg (by omega)]
        exact (hq m hm).1
      · rw [ba_sba, if_neg (by omega)]
        exact (hq m hm).2.1
      · rw [ba_sba, if_neg (by omega)]
        exact (hq m hm).2.2) (fun a ha => by
      have := sm_up (fun o a => ba B (183 + o) a) i j a (R (47 + 5 * k)) 8
      rw [sm_cong (g := fun o => (if o = i ∧ a = j then ba B (183 + o) a + R (47 + 5 * k) else ba B (183 + o) a) - (if a = i ∧ o = j then ba B (183 + a) o + R (47 + 5 * k) else ba B (183 + a) o)) 8 (fun o _ => by rw [T', T']), this, hs a ha, nn_s, e1, e2]
      have d1 : (Int32.ofNat i = Int32.ofNat a) ↔ i = a := ofN_inj (by omega) (by omega)
      have d2 : (Int32.ofNat j = Int32.ofNat a) ↔ j = a := ofN_inj (by omega) (by omega)
      by_cases c1 : i = a
      · rw [if_pos (by omega), if_pos (d1.mpr c1)]
        by_cases c2 : j = a
        · rw [if_pos (by omega), if_pos (d2.mpr c2)]
        · rw [if_neg (by omega), if_neg (mt d2.mp c2)]
      · rw [if_neg (by omega), if_neg (mt d1.mp c1)]
        by_cases c2 : j = a
        · rw [if_pos (by omega), if_pos (d2.mpr c2)]
        · rw [if_neg (by omega), if_neg (mt d2.mp c2)])
    have ef : f_X6_fillSums_L47 (n + 1) B (Int32.ofNat k) = f_X6_fillSums_L47 n (sba B (183 + i) j (ba B (183 + i) j + R (47 + 5 * k))) (Int32.ofNat (k + 1)) := by
      rw [f_X6_fillSums_L47, if_neg w, hx, q1, q2, q3, e1, e2, hxi, hxj, nm_eq, oad1]
    rw [ef]
    refine ⟨⟨fun h9 => absurd h9 w, fun _ => ?_⟩, Fg_t g1 r2, r3⟩
    rw [hx, q1, q2, q3, e1, e2, hxi, hxj, oad1]
    refine ⟨hv, in_o hi (by omega), hv, in_o hj (by omega), hv, in_o hj (by omega), ?_⟩
    intro C hC
    rw [hC]
    exact r1
theorem L_t13 {a : Nat} (B : StB) (ha : a < 8) : ∀ (g n o : Nat), o + g = 8 → g < n → ok_X6_netByTable_L13 n B (Int32.ofNat a) (sm (fun o => ba B (183 + o) a - ba B (183 + a) o) o) (Int32.ofNat o) ∧ f_X6_netByTable_L13 n B (Int32.ofNat a) (sm (fun o => ba B (183 + o) a - ba B (183 + a) o) o) (Int32.ofNat o) = sm (fun o => ba B (183 + o) a - ba B (183 + a) o) 8 := by
  intro g
  induction g with
  | zero =>
    intro n o hj hn
    obtain ⟨n, rfl⟩ : ∃ q, n = q + 1 := ⟨n - 1, by omega⟩
    have w : (8 : Int32) ≤ Int32.ofNat o := (le_ofN (a := 8) (by omega) (by omega)).mpr (by omega)
    refine ⟨⟨fun _ => trivial, fun h9 => absurd w h9⟩, ?_⟩
    rw [f_X6_netByTable_L13, if_pos w, show o = 8 by omega]
  | succ g ih =>
    intro n o hj hn
    obtain ⟨n, rfl⟩ : ∃ q, n = q + 1 := ⟨n - 1, by omega⟩
    have w : ¬ (8 : Int32) ≤ Int32.ofNat o := by
      rw [show (8 : Int32) = Int32.ofNat 8 from rfl, le_ofN (by omega) (by omega)]
      omega
    have hx : ix (Int32.ofNat a) = a := ix_o (by omega)
    have hxo : ix (Int32.ofNat o) = o := ix_o (by omega)
    have va : vp_in (Int32.ofNat a) 8 := in_o ha (by omega)
    have vo : vp_in (Int32.ofNat o) 8 := in_o (by omega) (by omega)
    obtain ⟨r1, r2⟩ := ih n (o + 1) (by omega) (by omega)
    have es : sm (fun o => ba B (183 + o) a - ba B (183 + a) o) (o + 1) = sm (fun o => ba B (183 + o) a - ba B (183 + a) o) o + (ba B (183 + o) a - ba B (183 + a) o) := rfl
    rw [es] at r1 r2
    refine ⟨⟨fun h9 => absurd h9 w, fun _ => ⟨vo, va, va, vo, ?_⟩⟩, ?_⟩
    · intro v hv
      rw [hv, hx, hxo, oad1]
      exact r1
    · rw [f_X6_netByTable_L13, if_neg w, nm_eq, hx, hxo, oad1]
      exact r2
theorem case_33 {u : Nat} {B : StB} {M : StM} (hI : Inv u B M) (hu : u < 512) (O : StO) (y1 : Int32) : okc_33 B M O y1 ∧ Inv (u + 1) (stB_33 B M O y1) (stM_33 B M O y1) := by
  have hN := fun v => Inv_15 hI hu v
  have hF := fun (C : StB) (g : Fg 183 191 B C) => Inv_F (N := smi M 15 0) hI hu g (Or.inr ⟨by omega, by omega⟩) (fun _ _ => rfl) (fun _ _ _ => rfl) (fun j h1 _ => by rw [mi_smi, if_neg h1])
  obtain ⟨e, ty, he, hu2, ⟨n, t, hT, hR⟩, hS, hH, hE, hRd, hTt⟩ := hI
  obtain ⟨b1, b2, b3⟩ := Ti_n hT
  have b1 : bi B 1 0 = Int32.ofNat n := b1
  obtain ⟨r1, r0⟩ := reqA (x := y1) b1 b3
  have ht : t ≤ 10 := hR.2.1.1
  obtain ⟨om, m1, m0⟩ := net_M (x := y1) b2 b3 hR.2.1.2.1 ht
  have om' : ok_X7_netByTable M y1 := om
  have em : f_X7_netByTable M y1 = f_X7_net M y1 := by
    unfold f_X7_netByTable
    rw [nm_eq]
  unfold okc_33 stB_33 stM_33
  rw [em]
  by_cases hx : acc n y1
  · obtain ⟨a, ha, rfl⟩ := acc_o hx
    have hfu : 10 < fu := by unfold fu; omega
    have z := L_z2 8 fu 0 B (by omega) (by omega)
    rw [show Int32.ofNat 0 = 0 from rfl] at z
    obtain ⟨z1, z2, z3⟩ := z
    have eF : f_X6_fillSums B = f_X6_fillSums_L47 fu (f_X6_fillSums_L2 fu B 0) 0 := by
      unfold f_X6_fillSums
      rw [nm_eq, nm_eq]
    have oF : ok_X6_fillSums_L47 fu (f_X6_fillSums_L2 fu B 0) 0 → ok_X6_fillSums B := by
      intro ho
      refine ⟨z1, ?_⟩
      intro y hy
      rw [hy]
      exact ho
    generalize f_X6_fillSums_L2 fu B 0 = C at z2 z3 eF oF
    have hz : ∀ a, a < 8 → sm (fun o => ba C (183 + o) a - ba C (183 + a) o) 8 = nn (ma M 0) (Int32.ofNat a) 0 := by
      intro a ha
      rw [sm_cong (g := fun _ => 0) 8 (fun o ho => by
        rw [z3, z3, if_pos (by omega), if_pos (by omega)]
        rfl)]
      rfl
    have f := L_fill (R := ma M 0) ht (fun k hk => by
      obtain ⟨⟨i, hi, e1⟩, ⟨j, hj, e2⟩, _⟩ := hR.2.1.2.2.1 k hk
      exact ⟨⟨i, by omega, e1⟩, j, by omega, e2⟩) t fu 0 C (by omega) (by omega) ((z2.2 6 0 (by omega)).1.trans (Ti_c hT).1) (fun k hk => ⟨(z2.2 8 k (by omega)).2.2.trans (Ti_q hT hk).2.1, (z2.2 9 k (by omega)).2.2.trans (Ti_q hT hk).2.2.1, (z2.2 10 k (by omega)).2.2.trans (Ti_q hT hk).2.2.2.1⟩) hz
    rw [show Int32.ofNat 0 = 0 from rfl, ← eF] at f
    obtain ⟨f1, f2, f3⟩ := f
    have oFF := oF f1
    have gD := Fg_t z2 f2
    clear oF z1 z2 z3 hz f1 f2 eF
    generalize hD : f_X6_fillSums B = D at f3 gD
    obtain ⟨l1, l2⟩ := L_t13 (a := a) D (by omega) 8 fu 0 (by omega) (by omega)
    have l1' : ok_X6_netByTable_L13 fu D (Int32.ofNat a) 0 0 := l1
    have l2' : f_X6_netByTable_L13 fu D (Int32.ofNat a) 0 0 = nn (ma M 0) (Int32.ofNat a) t := l2.trans (f3 a (by omega))
    clear hfu
    have ef : f_X6_netByTable B (Int32.ofNat a) = (0, nn (ma M 0) (Int32.ofNat a) t, D) := by
      unfold f_X6_netByTable
      rw [nm_eq, r1 hx]
      show (if 0 = 0 then nm (f_X6_fillSums B) _ else _) = _
      rw [if_pos rfl, nm_eq, hD, nm_eq, l2']
    rw [ef, m1 hx]
    refine ⟨⟨?_, Or.inl rfl, om', rfl, fun _ => rfl⟩, hF D gD⟩
    intro z hz _
    rw [hz, r1 hx]
    refine ⟨oFF, ?_⟩
    intro D' hD'
    have e' : D' = D := hD'.trans hD
    rw [e']
    exact l1'
  · have ef : f_X6_netByTable B y1 = (1, 0, B) := by
      unfold f_X6_netByTable
      rw [nm_eq, r0 hx]
      rfl
    rw [ef, m0 hx]
    refine ⟨⟨?_, Or.inr rfl, om', rfl, fun h => absurd (show (1 : Int32) = 0 from h) (by decide)⟩, hN 1⟩
    intro z hz h0
    rw [hz, r0 hx] at h0
    exact absurd (show (1 : Nat) = 0 from h0) (by decide)
