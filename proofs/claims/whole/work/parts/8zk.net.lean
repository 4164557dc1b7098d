/-! the pure part: net amounts -/
def nn (R : Nat → Int32) (a : Int32) : Nat → Int32
  | 0 => 0
  | k + 1 => if R (45 + 5 * k) = a then (if R (46 + 5 * k) = a then nn R a k + R (47 + 5 * k) else nn R a k) - R (47 + 5 * k) else (if R (46 + 5 * k) = a then nn R a k + R (47 + 5 * k) else nn R a k)
theorem L_netC {t : Nat} {B : StB} {R : Nat → Int32} (a : Int32) (h0 : bi B 6 0 = Int32.ofNat t) (ht : t ≤ 10) (hq : ∀ k, k < t → ba B 8 k = R (45 + 5 * k) ∧ ba B 9 k = R (46 + 5 * k) ∧ ba B 10 k = R (47 + 5 * k)) : ∀ (g n k : Nat), k + g = t → g < n → ok_X5_net_L4 n 6 B a (nn R a k) (Int32.ofNat k) ∧ f_X5_net_L4 n 6 B a (nn R a k) (Int32.ofNat k) = nn R a t := by
  intro g
  induction g with
  | zero =>
    intro n k hk hn
    obtain ⟨n, rfl⟩ : ∃ q, n = q + 1 := ⟨n - 1, by omega⟩
    have w : bi B 6 0 ≤ Int32.ofNat k := by
      rw [h0, le_ofN (by omega) (by omega)]
      omega
    refine ⟨⟨fun _ => trivial, fun h9 => absurd w h9⟩, ?_⟩
    rw [f_X5_net_L4, if_pos w, show k = t by omega]
  | succ g ih =>
    intro n k hk hn
    obtain ⟨n, rfl⟩ : ∃ q, n = q + 1 := ⟨n - 1, by omega⟩
    have w : ¬ bi B 6 0 ≤ Int32.ofNat k := by
      rw [h0, le_ofN (by omega) (by omega)]
      omega
    obtain ⟨q1, q2, q3⟩ := hq k (by omega)
    have hx : ix (Int32.ofNat k) = k := ix_o (by omega)
    have hv : vp_in (Int32.ofNat k) 10 := in_o (by omega) (by omega)
    obtain ⟨r1, r2⟩ := ih n (k + 1) (by omega) (by omega)
    have en : nn R a (k + 1) = if R (45 + 5 * k) = a then (if R (46 + 5 * k) = a then nn R a k + R (47 + 5 * k) else nn R a k) - R (47 + 5 * k) else (if R (46 + 5 * k) = a then nn R a k + R (47 + 5 * k) else nn R a k) := rfl
    rw [en] at r1 r2
    have q1' : ba B (6 + 2) (ix (Int32.ofNat k)) = R (45 + 5 * k) := by rw [hx]; exact q1
    have q2' : ba B (6 + 3) (ix (Int32.ofNat k)) = R (46 + 5 * k) := by rw [hx]; exact q2
    have q3' : ba B (6 + 4) (ix (Int32.ofNat k)) = R (47 + 5 * k) := by rw [hx]; exact q3
    refine ⟨⟨fun h9 => absurd h9 w, fun _ => ⟨hv, ?_⟩⟩, ?_⟩
    · rw [q1', q2', q3', oad1]
      by_cases c2 : R (46 + 5 * k) = a
      · refine ⟨fun _ => ⟨hv, ?_⟩, fun h9 => absurd c2 h9⟩
        intro v hvv
        rw [hvv]
        rw [if_pos c2] at r1
        by_cases c1 : R (45 + 5 * k) = a
        · refine ⟨hv, fun _ => ⟨hv, ?_⟩, fun h9 => absurd c1 h9⟩
          intro y hy
          rw [hy]
          rw [if_pos c1] at r1
          exact r1
        · refine ⟨hv, fun h9 => absurd h9 c1, fun _ => ?_⟩
          rw [if_neg c1] at r1
          exact r1
      · refine ⟨fun h9 => absurd h9 c2, fun _ => ⟨hv, ?_⟩⟩
        rw [if_neg c2] at r1
        by_cases c1 : R (45 + 5 * k) = a
        · refine ⟨fun _ => ⟨hv, ?_⟩, fun h9 => absurd c1 h9⟩
          intro y hy
          rw [hy]
          rw [if_pos c1] at r1
          exact r1
        · refine ⟨fun h9 => absurd h9 c1, fun _ => ?_⟩
          rw [if_neg c1] at r1
          exact r1
    · rw [f_X5_net_L4, if_neg w, q1', q2', q3', oad1]
      by_cases c2 : R (46 + 5 * k) = a
      · rw [if_pos c2, nm_eq, nm_eq]
        rw [if_pos c2] at r2
        by_cases c1 : R (45 + 5 * k) = a
        · rw [if_pos c1]
          rw [if_pos c1] at r2
          exact r2
        · rw [if_neg c1]
          rw [if_neg c1] at r2
          exact r2
      · rw [if_neg c2, nm_eq]
        rw [if_neg c2] at r2
        by_cases c1 : R (45 + 5 * k) = a
        · rw [if_pos c1]
          rw [if_pos c1] at r2
          exact r2
        · rw [if_neg c1]
          rw [if_neg c1] at r2
          exact r2
theorem plM0 {M : StM} {k j : Nat} (hk : k < 10) (hj : j < 5) : f_X7_ofPlace M (Int32.ofNat k) (Int32.ofNat j) = ma M 0 (44 + 5 * k + j) ∧ ok_X7_ofPlace M (Int32.ofNat k) (Int32.ofNat j) := by
  have := pl_R (M := M) (R := ma M 0) hk hj
  rwa [rs_self] at this
theorem L_netM {t : Nat} {M : StM} (a : Int32) (h0 : ma M 0 3 = Int32.ofNat t) (ht : t ≤ 10) : ∀ (g n k : Nat), k + g = t → g < n → ok_X7_net_L4 n M a (nn (ma M 0) a k) (Int32.ofNat k) ∧ f_X7_net_L4 n M a (nn (ma M 0) a k) (Int32.ofNat k) = nn (ma M 0) a t := by
  have i3 : ix 3 = 3 := by decide
  intro g
  induction g with
  | zero =>
    intro n k hk hn
    obtain ⟨n, rfl⟩ : ∃ q, n = q + 1 := ⟨n - 1, by omega⟩
    have w : ma M 0 (ix 3) ≤ Int32.ofNat k := by
      rw [i3, h0, le_ofN (by omega) (by omega)]
      omega
    refine ⟨⟨fun _ => trivial, fun h9 => absurd w h9⟩, ?_⟩
    rw [f_X7_net_L4, if_pos w, show k = t by omega]
  | succ g ih =>
    intro n k hk hn
    obtain ⟨n, rfl⟩ : ∃ q, n = q + 1 := ⟨n - 1, by omega⟩
    have w : ¬ ma M 0 (ix 3) ≤ Int32.ofNat k := by
      rw [i3, h0, le_ofN (by omega) (by omega)]
      omega
    obtain ⟨r1, r2⟩ := ih n (k + 1) (by omega) (by omega)
    have p1 : f_X7_ofPlace M (Int32.ofNat k) 1 = ma M 0 (45 + 5 * k) ∧ ok_X7_ofPlace M (Int32.ofNat k) 1 := by
      have := plM0 (M := M) (k := k) (j := 1) (by omega) (by decide)
      rw [show 44 + 5 * k + 1 = 45 + 5 * k by omega] at this
      exact this
    have p2 : f_X7_ofPlace M (Int32.ofNat k) 2 = ma M 0 (46 + 5 * k) ∧ ok_X7_ofPlace M (Int32.ofNat k) 2 := by
      have := plM0 (M := M) (k := k) (j := 2) (by omega) (by decide)
      rw [show 44 + 5 * k + 2 = 46 + 5 * k by omega] at this
      exact this
    have p3 : f_X7_ofPlace M (Int32.ofNat k) 3 = ma M 0 (47 + 5 * k) ∧ ok_X7_ofPlace M (Int32.ofNat k) 3 := by
      have := plM0 (M := M) (k := k) (j := 3) (by omega) (by decide)
      rw [show 44 + 5 * k + 3 = 47 + 5 * k by omega] at this
      exact this
    generalize ma M 0 = R at r1 r2 p1 p2 p3 w
    have en : nn R a (k + 1) = if R (45 + 5 * k) = a then (if R (46 + 5 * k) = a then nn R a k + R (47 + 5 * k) else nn R a k) - R (47 + 5 * k) else (if R (46 + 5 * k) = a then nn R a k + R (47 + 5 * k) else nn R a k) := rfl
    rw [en] at r1 r2
    have w' : ¬ ma M 0 (ix 3) ≤ Int32.ofNat k := by
      rw [i3, h0, le_ofN (by omega) (by omega)]
      omega
    refine ⟨⟨fun h9 => absurd h9 w', fun _ => ⟨p2.2, ?_⟩⟩, ?_⟩
    · intro x hx
      rw [hx, p2.1, p1.1, p3.1, oad1]
      by_cases c2 : R (46 + 5 * k) = a
      · refine ⟨fun _ => ⟨p3.2, ?_⟩, fun h9 => absurd c2 h9⟩
        intro y hy v hv
        rw [hv, hy]
        refine ⟨p1.2, ?_⟩
        intro z hz
        rw [hz]
        rw [if_pos c2] at r1
        by_cases c1 : R (45 + 5 * k) = a
        · refine ⟨fun _ => ⟨p3.2, ?_⟩, fun h9 => absurd c1 h9⟩
          intro b hb c hc
          rw [hc, hb]
          rw [if_pos c1] at r1
          exact r1
        · refine ⟨fun h9 => absurd h9 c1, fun _ => ?_⟩
          intro c hc
          rw [hc, Int32.sub_zero]
          rw [if_neg c1] at r1
          exact r1
      · refine ⟨fun h9 => absurd h9 c2, fun _ => ?_⟩
        intro v hv
        rw [hv, Int32.add_zero]
        refine ⟨p1.2, ?_⟩
        intro z hz
        rw [hz]
        rw [if_neg c2] at r1
        by_cases c1 : R (45 + 5 * k) = a
        · refine ⟨fun _ => ⟨p3.2, ?_⟩, fun h9 => absurd c1 h9⟩
          intro b hb c hc
          rw [hc, hb]
          rw [if_pos c1] at r1
          exact r1
        · refine ⟨fun h9 => absurd h9 c1, fun _ => ?_⟩
          intro c hc
          rw [hc, Int32.sub_zero]
          rw [if_neg c1] at r1
          exact r1
    · rw [f_X7_net_L4, if_neg w', p2.1, p1.1, p3.1, oad1, nm_eq]
      by_cases c2 : R (46 + 5 * k) = a
      · rw [if_pos c2, nm_eq, nm_eq, nm_eq]
        rw [if_pos c2] at r2
        by_cases c1 : R (45 + 5 * k) = a
        · rw [if_pos c1, nm_eq, nm_eq]
          rw [if_pos c1] at r2
          exact r2
        · rw [if_neg c1, nm_eq, Int32.sub_zero]
          rw [if_neg c1] at r2
          exact r2
      · rw [if_neg c2, nm_eq, nm_eq, Int32.add_zero]
        rw [if_neg c2] at r2
        by_cases c1 : R (45 + 5 * k) = a
        · rw [if_pos c1, nm_eq, nm_eq]
          rw [if_pos c1] at r2
          exact r2
        · rw [if_neg c1, nm_eq, Int32.sub_zero]
          rw [if_neg c1] at r2
          exact r2
/-- the model's net amount -/
theorem net_M {n t : Nat} {M : StM} {x : Int32} (h1 : ma M 0 1 = Int32.ofNat n) (hn : n ≤ 8) (h3 : ma M 0 3 = Int32.ofNat t) (ht : t ≤ 10) : ok_X7_net M x ∧ (acc n x → f_X7_net M x = (nn (ma M 0) x t, smi M 15 0)) ∧ (¬ acc n x → f_X7_net M x = (0, smi M 15 1)) := by
  have hfu : t < fu := by unfold fu; omega
  obtain ⟨k1, k2⟩ := L_netM x h3 ht t fu 0 (by omega) hfu
  clear hfu
  have k1' : ok_X7_net_L4 fu M x 0 0 := k1
  have k2' : f_X7_net_L4 fu M x 0 0 = nn (ma M 0) x t := k2
  obtain ⟨m1, m0⟩ := acc_M (M := M) (x := x) h1 hn
  refine ⟨⟨k1', ?_⟩, fun hx => ?_, fun hx => ?_⟩
  · intro z hz
    refine ⟨okisAcc _ _, ?_⟩
    intro r hr
    rw [hr]
    by_cases hx : acc n x
    · rw [m1 hx]
      exact okgoes (Or.inr rfl)
    · rw [m0 hx]
      exact okgoes (Or.inl rfl)
  · unfold f_X7_net
    rw [nm_eq, k2', nm_eq, m1 hx, nm_eq, goes_1]
    rfl
  · unfold f_X7_net
    rw [nm_eq, k2', nm_eq, m0 hx, nm_eq, goes_0]
    rfl
theorem case_32 {u : Nat} {B : StB} {M : StM} (hI : Inv u B M) (hu : u < 512) (O : StO) (y1 : Int32) : okc_32 B M O y1 ∧ Inv (u + 1) (stB_32 B M O y1) (stM_32 B M O y1) := by
  have hN := fun v => Inv_15 hI hu v
  obtain ⟨e, ty, he, hu2, ⟨n, t, hT, hR⟩, hS, hH, hE, hRd, hTt⟩ := hI
  obtain ⟨b1, b2, b3⟩ := Ti_n hT
  have b1 : bi B 1 0 = Int32.ofNat n := b1
  obtain ⟨r1, r0⟩ := reqA (x := y1) b1 b3
  have ht : t ≤ 10 := hR.2.1.1
  obtain ⟨om, m1, m0⟩ := net_M (x := y1) b2 b3 hR.2.1.2.1 ht
  have om' : ok_X7_netOf M y1 := om
  have em : f_X7_netOf M y1 = f_X7_net M y1 := by
    unfold f_X7_netOf
    rw [nm_eq]
  unfold okc_32 stB_32 stM_32
  rw [em]
  by_cases hx : acc n y1
  · have hfu : t < fu := by unfold fu; omega
    obtain ⟨k1, k2⟩ := L_netC (B := B) (R := ma M 0) y1 (Ti_c hT).1 ht (fun k hk => ⟨(Ti_q hT hk).2.1, (Ti_q hT hk).2.2.1, (Ti_q hT hk).2.2.2.1⟩) t fu 0 (by omega) hfu
    clear hfu
    have k1' : ok_X5_net_L4 fu 6 B y1 0 0 := k1
    have k2' : f_X5_net_L4 fu 6 B y1 0 0 = nn (ma M 0) y1 t := k2
    have ef : f_X6_netOf B y1 = (0, nn (ma M 0) y1 t, B) := by
      unfold f_X6_netOf
      rw [nm_eq, r1 hx]
      show (if 0 = 0 then _ else _) = _
      rw [if_pos rfl, nm_eq]
      unfold f_X5_net
      rw [nm_eq]
      exact congrArg (fun v => ((0 : Nat), v, B)) k2'
    rw [ef, m1 hx]
    refine ⟨⟨?_, Or.inl rfl, om', rfl, fun _ => rfl⟩, hN 0⟩
    intro z hz _
    rw [hz, r1 hx]
    exact k1'
  · have ef : f_X6_netOf B y1 = (1, 0, B) := by
      unfold f_X6_netOf
      rw [nm_eq, r0 hx]
      rfl
    rw [ef, m0 hx]
    refine ⟨⟨?_, Or.inr rfl, om', rfl, fun h => absurd (show (1 : Int32) = 0 from h) (by decide)⟩, hN 1⟩
    intro z hz h0
    rw [hz, r0 hx] at h0
    exact absurd (show (1 : Nat) = 0 from h0) (by decide)
