/-! p51: predictions -/
theorem ask_11 {B : StB} {x2 x3 : Int32} (o : ok_X6_daysUntilDue B x2) : ok_L_asked B 11 x2 x3 := ⟨fun h9 => absurd h9 (by decide), fun _ => ⟨fun h9 => absurd h9 (by decide), fun _ => ⟨fun h9 => absurd h9 (by decide), fun _ => ⟨fun h9 => absurd h9 (by decide), fun _ => ⟨fun h9 => absurd h9 (by decide), fun _ => ⟨fun h9 => absurd h9 (by decide), fun _ => ⟨fun h9 => absurd h9 (by decide), fun _ => ⟨fun h9 => absurd h9 (by decide), fun _ => ⟨fun h9 => absurd h9 (by decide), fun _ => ⟨fun h9 => absurd h9 (by decide), fun _ => ⟨fun h9 => absurd h9 (by decide), fun _ => o⟩⟩⟩⟩⟩⟩⟩⟩⟩⟩⟩
theorem raise_n0 : ok_X6_raise_n 0 := ⟨fun h9 => absurd h9 (by decide), fun _ => ⟨fun h9 => absurd h9 (by decide), fun _ => ⟨fun h9 => absurd h9 (by decide), fun _ => ⟨fun h9 => absurd h9 (by decide), fun _ => ⟨fun h9 => absurd h9 (by decide), fun _ => trivial⟩⟩⟩⟩⟩
theorem run_one (n t : Nat) (R : Nat → Int32) : (run 1 n t R).1 = (stl t 0 R).1 := List.append_nil _
theorem in_run {n t a b : Nat} {R : Nat → Int32} {x : Int32 × Bool} (h : x ∈ (stl (run a n t R).2.1 0 (run a n t R).2.2).1) (hb : a + 1 ≤ b) : x ∈ (run b n t R).1 := by
  have h1 := (run_add n a (b - a) t R).1
  rw [show a + (b - a) = b by omega] at h1
  rw [h1]
  refine List.mem_append_right _ ?_
  have h2 := (run_add n 1 (b - a - 1) (run a n t R).2.1 (run a n t R).2.2).1
  rw [show 1 + (b - a - 1) = b - a by omega] at h2
  rw [h2]
  refine List.mem_append_left _ ?_
  rw [run_one]
  exact h
theorem bal_n {e n t a d : Nat} {B : StB} {R : Nat → Int32} (h : SS e n t B R) (ha : a < n) (hd : d ≤ 60) : ok_X6_balanceAfter_n B (Int32.ofNat a) (Int32.ofNat d) ∧ (f_X6_balanceAfter_n B (Int32.ofNat a) (Int32.ofNat d)).1 = (run d n t R).2.2 (13 + 4 * a) ∧ Fg 16 32 B (f_X6_balanceAfter_n B (Int32.ofNat a) (Int32.ofNat d)).2 := by
  obtain ⟨hT, hR, -⟩ := h
  obtain ⟨b1, b2, b3⟩ := Ti_n hT
  have he : e ≤ 600 := by
    have := hR.2.2
    unfold bS at this
    exact this.1
  have hy : f_X7_isIn (Int32.ofNat d) 0 60 = 1 := by
    have : ∀ d, d < 61 → f_X7_isIn (Int32.ofNat d) 0 60 = 1 := by decide +kernel
    exact this d (by omega)
  have a0 : f_X3_balanceAfterFault 0 B (Int32.ofNat a) (Int32.ofNat d) = 0 := argf_0 (p := 0) (B := B) (lo := 0) (hi := 60) b1 (by omega) (o_acc ha b3) hy
  obtain ⟨c1, c2, c3⟩ := copy_C hT hR.1 (p := 16) (by omega)
  obtain ⟨s1, -, s3, -, s5⟩ := S_days (e := e) (D := 60 * e) (d := d) (by omega) (by omega) c3 hR
  have hx : ix (Int32.ofNat a) = a := ix_o (by omega)
  have hv : vp_in (Int32.ofNat a) 8 := in_o (by omega) (by omega)
  refine ⟨?_, ?_, ?_⟩
  · intro r hr
    rw [hr, a0]
    refine ⟨raise_n0, c1, ?_⟩
    intro C hC
    rw [hC]
    exact ⟨s1, fun _ _ => hv⟩
  · unfold f_X6_balanceAfter_n
    rw [nm_eq, nm_eq, nm_eq, hx]
    exact Ti_b s3 ha
  · unfold f_X6_balanceAfter_n
    rw [nm_eq, nm_eq, nm_eq]
    exact Fg_t (Fr_Fg c2) (Fr_Fg s5)
theorem wb_n {e n t m : Nat} {B : StB} {R : Nat → Int32} (h : SS e n t B R) (hm : m < t) : ok_X6_wouldBounce_n B (R (44 + 5 * m)) ∧ Fg 16 32 B (f_X6_wouldBounce_n B (R (44 + 5 * m))).2 ∧ ∃ b : Bool, (f_X6_wouldBounce_n B (R (44 + 5 * m))).1 = (if b then 0 else 1) ∧ ∀ d : Nat, (R (48 + 5 * m)).toInt - (R 0).toInt < (d : Int) → (R (44 + 5 * m), b) ∈ (run d n t R).1 := by
  obtain ⟨hT, hR, hX, -⟩ := h
  have hu := bT_uq hR.2.1
  have ht : t ≤ 10 := hR.2.1.1
  obtain ⟨o, f⟩ := reqTn hT hu hm
  obtain ⟨k1, k2, k3, k4, k5, k6, k7, k8⟩ := hR.2.1.2.2.1 m hm
  have hSS := hR.2.2
  unfold bS at hSS
  have vd : (R (48 + 5 * m) - R 0).toInt = (R (48 + 5 * m)).toInt - (R 0).toInt := i32_sub (by omega) (by omega)
  obtain ⟨g, hg, eg⟩ := of_rng (x := R (48 + 5 * m) - R 0) (n := 61) (by omega) (by omega)
  have egI : (g : Int) = (R (48 + 5 * m)).toInt - (R 0).toInt := by
    rw [← vd, eg, ofN_toInt (by omega)]
  obtain ⟨c1, c2, c3⟩ := copy_C hT hR.1 (p := 16) (by omega)
  have tv : ba (f_X3_copyFrom 16 0 B) 11 m = R (48 + 5 * m) := ((c2.2 11 m (by omega)).2.2).trans (Ti_q hT hm).2.2.2.2
  have tb : bi (f_X3_copyFrom 16 0 B) 0 3 = R 0 := ((c2.2 0 3 (by omega)).1).trans (Ti_s hT).1
  have hx : ix (Int32.ofNat m) = m := ix_o (by omega)
  have hv : vp_in (Int32.ofNat m) 10 := in_o (by omega) (by omega)
  obtain ⟨s1, -, s3, s4, s5⟩ := S_days (e := e) (D := 60 * e) (d := g) (by omega) (by omega) c3 hR
  obtain ⟨p1, p2, p3, p4, p5, p6⟩ := P_run g (60 * e) t B R hT hR hX (by omega)
  obtain ⟨m', q1, q2, q3⟩ := (p4 (R (44 + 5 * m)) (R (48 + 5 * m))).mpr ⟨⟨m, hm, rfl, rfl⟩, by omega⟩
  have q4 : (run g n t R).2.2 (48 + 5 * m') = (run g n t R).2.2 0 := by
    rw [i32_inj, q3, p2]
    omega
  obtain ⟨l1, l2, l3, l4, b, l5, l6⟩ := S_last s3 s4 q1 q2 q4
  have ef : f_X6_wouldBounce_n B (R (44 + 5 * m)) = (if b then 0 else 1, f_X3_settleDueBefore 16 (f_X3_passDays 16 (f_X3_copyFrom 16 0 B) (Int32.ofNat g)).2 (R (44 + 5 * m))) := by
    unfold f_X6_wouldBounce_n
    rw [nm_eq, nm_eq, nm_eq, f, hx, tv, tb, eg, nm_eq, nm_eq, nm_eq, l5]
    cases b
    · exact if_pos rfl
    · exact if_neg (by decide)
  rw [ef]
  refine ⟨⟨o, ?_⟩, Fg_t (Fr_Fg c2) (Fg_t (Fr_Fg s5) (Fr_Fg l2)), b, rfl, fun d hd => in_run l6 (by omega)⟩
  intro r hr
  rw [hr, f]
  refine ⟨c1, ?_⟩
  intro C hC
  rw [hC]
  refine ⟨hv, ?_⟩
  rw [hx, tv, tb, eg]
  refine ⟨s1, ?_⟩
  intro z hz
  rw [hz]
  refine ⟨l1, ?_⟩
  intro C2 hC2
  rw [hC2]
  refine ⟨l3, ?_⟩
  intro r2 hr2
  rw [hr2]
  exact l4
/-- the law's four arrays have their lengths -/
def Tl (n t : Nat) (B : StB) : Prop := bi B 193 9 = Int32.ofNat n ∧ bi B 194 9 = Int32.ofNat t ∧ bi B 195 9 = Int32.ofNat t ∧ bi B 196 9 = Int32.ofNat t
theorem Tl_Fg {n t hi : Nat} {B C : StB} {lo : Nat} (h : Tl n t B) (g : Fg lo hi B C) (hh : hi ≤ 193) : Tl n t C := ⟨(g.2 193 9 (by omega)).1.trans h.1, (g.2 194 9 (by omega)).1.trans h.2.1, (g.2 195 9 (by omega)).1.trans h.2.2.1, (g.2 196 9 (by omega)).1.trans h.2.2.2⟩
theorem Fg_A (B : StB) (q k : Nat) (v : Int32) : Fg q (q + 1) B (sba B q k v) := by
  refine ⟨rfl, fun p j hp => ⟨rfl, rfl, ?_⟩⟩
  rw [ba_sba, if_neg (by omega)]
theorem told_L {e n t d : Nat} {R : Nat → Int32} (hd : d ≤ 60) (a3 a8 : Int32) : ∀ (g nf k : Nat) (B : StB), k + g = n → g < nf → SS e n t B R → Tl n t B → (∀ j, j < k → ba B 193 j = (run d n t R).2.2 (13 + 4 * j)) → Gz (fun C => SS e n t C R ∧ Tl n t C ∧ ∀ j, j < n → ba C 193 j = (run d n t R).2.2 (13 + 4 * j)) (ok_L_arePredictionsRight_L98 nf B (Int32.ofNat d) (Int32.ofNat n) a3 a8 (Int32.ofNat k)) (f_L_arePredictionsRight_L98 nf B (Int32.ofNat d) (Int32.ofNat n) a3 a8 (Int32.ofNat k)) := by
  intro g
  induction g with
  | zero =>
    intro nf k B hk hnf h hl hb
    obtain ⟨nf, rfl⟩ : ∃ q, nf = q + 1 := ⟨nf - 1, by omega⟩
    have hn : n ≤ 8 := h.2.1.1.1
    have c : Int32.ofNat n ≤ Int32.ofNat k := by
      rw [le_ofN (by omega) (by omega)]
      omega
    unfold f_L_arePredictionsRight_L98 ok_L_arePredictionsRight_L98
    exact G_pos c ⟨trivial, h, hl, fun j hj => hb j (by omega)⟩
  | succ g ih =>
    intro nf k B hk hnf h hl hb
    obtain ⟨nf, rfl⟩ : ∃ q, nf = q + 1 := ⟨nf - 1, by omega⟩
    have hn : n ≤ 8 := h.2.1.1.1
    have c : ¬ Int32.ofNat n ≤ Int32.ofNat k := by
      rw [le_ofN (by omega) (by omega)]
      omega
    obtain ⟨o, v, f⟩ := bal_n h (a := k) (by omega) hd
    have hx : ix (Int32.ofNat k) = k := ix_o (by omega)
    have hl2 := Tl_Fg hl f (by omega)
    have hL : vp_in (Int32.ofNat k) (ix (bi (f_X6_balanceAfter_n B (Int32.ofNat k) (Int32.ofNat d)).2 193 9)) := by
      rw [hl2.1, ix_o (by omega)]
      exact in_o (by omega) (by omega)
    have h2 := SS_Fg h f (by omega) (by omega)
    unfold f_L_arePredictionsRight_L98 ok_L_arePredictionsRight_L98
    refine G_neg c (G_ka o rfl (G_ka hL rfl ?_))
    rw [hx, oad1, v]
    refine ih nf (k + 1) _ (by omega) (by omega) (SS_Fg h2 (Fg_A _ 193 k _) (by omega) (by omega)) hl2 (fun j hj => ?_)
    rw [ba_sba]
    by_cases hjk : j = k
    · rw [if_pos ⟨rfl, hjk⟩, hjk]
    · rw [if_neg (by omega), (f.2 193 j (by omega)).2.2]
      exact hb j (by omega)
/-- what is told of the transfer at m -/
def Td (d n t : Nat) (R : Nat → Int32) (B : StB) (m : Nat) : Prop := ba B 194 m = R (44 + 5 * tsl t R m) ∧ ba B 195 m = R (48 + 5 * tsl t R m) - R 0 ∧ ∃ b : Bool, ba B 196 m = (if b then 0 else 1) ∧ ((R (48 + 5 * tsl t R m)).toInt - (R 0).toInt < (d : Int) → (R (44 + 5 * tsl t R m), b) ∈ (run d n t R).1)
theorem told_T {e n t d : Nat} {R : Nat → Int32} (a1 a2 a8 : Int32) : ∀ (g nf k : Nat) (B : StB), k + g = t → g < nf → SS e n t B R → Tl n t B → (∀ j, j < k → Td d n t R B j) → Gz (fun C => SS e n t C R ∧ Tl n t C ∧ (∀ j, ba C 193 j = ba B 193 j) ∧ ∀ j, j < t → Td d n t R C j) (ok_L_arePredictionsRight_L125 nf B a1 a2 (Int32.ofNat t) a8 (Int32.ofNat k)) (f_L_arePredictionsRight_L125 nf B a1 a2 (Int32.ofNat t) a8 (Int32.ofNat k)) := by
  intro g
  induction g with
  | zero =>
    intro nf k B hk hnf h hl hb
    obtain ⟨nf, rfl⟩ : ∃ q, nf = q + 1 := ⟨nf - 1, by omega⟩
    have ht : t ≤ 10 := h.2.1.2.1.1
    have c : Int32.ofNat t ≤ Int32.ofNat k := by
      rw [le_ofN (by omega) (by omega)]
      omega
    unfold f_L_arePredictionsRight_L125 ok_L_arePredictionsRight_L125
    exact G_pos c ⟨trivial, h, hl, fun _ => rfl, fun j hj => hb j (by omega)⟩
  | succ g ih =>
    intro nf k B hk hnf h hl hb
    obtain ⟨nf, rfl⟩ : ∃ q, nf = q + 1 := ⟨nf - 1, by omega⟩
    have ht : t ≤ 10 := h.2.1.2.1.1
    have hu := bT_uq h.2.1.2.1
    have c : ¬ Int32.ofNat t ≤ Int32.ofNat k := by
      rw [le_ofN (by omega) (by omega)]
      omega
    have hx : ix (Int32.ofNat k) = k := ix_o (by omega)
    have vk : vp_in (Int32.ofNat k) t := in_o (by omega) (by omega)
    have xt : ix (Int32.ofNat t) = t := ix_o (by omega)
    obtain ⟨o1, f1, s1⟩ := tAt h.1 (m := k) (by omega)
    have g1 := Fg_A B 194 k (R (44 + 5 * tsl t R k))
    generalize hC : sba B 194 k (R (44 + 5 * tsl t R k)) = C at g1
    have h1 := SS_Fg h g1 (by omega) (by omega)
    have l1 : Tl n t C := by rw [← hC]; exact hl
    have w1 : ba C 194 k = R (44 + 5 * tsl t R k) := by rw [← hC, ba_sba, if_pos ⟨rfl, rfl⟩]
    obtain ⟨⟨o2, f2⟩, -⟩ := slot_n h1.1 hu s1
    have g2 := Fg_A C 195 k (R (48 + 5 * tsl t R k) - R 0)
    generalize hD : sba C 195 k (R (48 + 5 * tsl t R k) - R 0) = D at g2
    have h2 := SS_Fg h1 g2 (by omega) (by omega)
    have l2 : Tl n t D := by rw [← hD]; exact l1
    have w2 : ba D 194 k = R (44 + 5 * tsl t R k) := (g2.2 194 k (by omega)).2.2.trans w1
    have w3 : ba D 195 k = R (48 + 5 * tsl t R k) - R 0 := by rw [← hD, ba_sba, if_pos ⟨rfl, rfl⟩]
    obtain ⟨o3, g3, b, f3, f4⟩ := wb_n h2 s1
    generalize hE : f_X6_wouldBounce_n D (R (44 + 5 * tsl t R k)) = E at g3 f3
    have h3 := SS_Fg h2 g3 (by omega) (by omega)
    have l3 := Tl_Fg l2 g3 (by omega)
    have nb : vp_nar .boolean E.1 = (if b then 0 else 1) := by
      rw [f3]
      cases b <;> rfl
    have g4 := Fg_A E.2 196 k (if b then 0 else 1)
    generalize hF : sba E.2 196 k (if b then 0 else 1) = F at g4
    have h4 := SS_Fg h3 g4 (by omega) (by omega)
    have l4 : Tl n t F := by rw [← hF]; exact l3
    have eq : ∀ q j, (q = 193 ∨ ((q = 194 ∨ q = 195 ∨ q = 196) ∧ j ≠ k)) → ba F q j = ba B q j := by
      intro q j hq
      rw [← hF, ba_sba, if_neg (by omega), (g3.2 q j (by omega)).2.2, ← hD, ba_sba, if_neg (by omega), ← hC, ba_sba, if_neg (by omega)]
    have v4 : ba F 194 k = R (44 + 5 * tsl t R k) := ((g4.2 194 k (by omega)).2.2.trans (g3.2 194 k (by omega)).2.2).trans w2
    have v5 : ba F 195 k = R (48 + 5 * tsl t R k) - R 0 := ((g4.2 195 k (by omega)).2.2.trans (g3.2 195 k (by omega)).2.2).trans w3
    have v6 : ba F 196 k = (if b then 0 else 1) := by rw [← hF, ba_sba, if_pos ⟨rfl, rfl⟩]
    have r1 := ih nf (k + 1) F (by omega) (by omega) h4 l4 (fun j hj => by
      by_cases hjk : j = k
      · subst hjk
        exact ⟨v4, v5, b, v6, f4 d⟩
      · obtain ⟨t1, t2, b', t3, t4⟩ := hb j (by omega)
        exact ⟨(eq 194 j (by omega)).trans t1, (eq 195 j (by omega)).trans t2, b', (eq 196 j (by omega)).trans t3, t4⟩)
    obtain ⟨r1, r2, r3, r4, r5⟩ := r1
    rw [← oad1] at r1 r2 r3 r4 r5
    unfold f_L_arePredictionsRight_L125 ok_L_arePredictionsRight_L125
    rw [hx]
    refine G_neg c (G_ka o1 f1 (G_ka (by rw [hl.2.1, xt]; exact vk) hC ⟨⟨by rw [l1.2.1, xt]; exact vk, ?_⟩, ?_⟩))
    · rw [w1]
      refine ⟨o2, ?_⟩
      intro r hr
      rw [hr, f2]
      refine ⟨by rw [l1.2.2.1, xt]; exact vk, ?_⟩
      intro D' hD'
      rw [hD', hD, w2]
      refine ⟨by rw [l2.2.1, xt]; exact vk, o3, ?_⟩
      intro z hz
      rw [hz, hE]
      refine ⟨by rw [l3.2.2.2, xt]; exact vk, ?_⟩
      intro F' hF'
      rw [hF', nb, hF]
      exact r1
    · rw [w1, nm_eq, f2, nm_eq, hD, w2, nm_eq, hE, nm_eq, nb, hF]
      exact ⟨r2, r3, fun j => (r4 j).trans (eq 193 j (by omega)), r5⟩
/-! after the days -/
theorem forg_ne : ∀ (g i : Nat) (R : Nat → Int32) (q : Nat), (∀ j, q ≠ 15 + 4 * j) → forgR g i R q = R q
  | 0, _, _, _, _ => rfl
  | g + 1, i, R, q, h => (forg_ne g (i + 1) _ q h).trans (ur_ne _ _ (h i))
theorem forg_lo : ∀ (g i : Nat) (R : Nat → Int32) (j : Nat), j < i → forgR g i R (15 + 4 * j) = R (15 + 4 * j)
  | 0, _, _, _, _ => rfl
  | g + 1, i, R, j, h => (forg_lo g (i + 1) _ j (by omega)).trans (ur_ne _ _ (by omega))
theorem forg_0 : ∀ (g i : Nat) (R : Nat → Int32) (j : Nat), i ≤ j → j < i + g → forgR g i R (15 + 4 * j) = 0
  | 0, i, _, j, h1, h2 => by omega
  | g + 1, i, R, j, h1, h2 => by
    show forgR g (i + 1) (ur R (15 + 4 * i) 0) (15 + 4 * j) = 0
    by_cases h : j = i
    · rw [forg_lo g (i + 1) _ j (by omega), h]
      exact ur_eq _ _ _
    · exact forg_0 g (i + 1) _ j (by omega) (by omega)
theorem day_0 (n t : Nat) (R : Nat → Int32) {j : Nat} (hj : j < n) : dayR n t R (15 + 4 * j) = 0 := by
  unfold dayR
  rw [ur_ne _ _ (by omega)]
  exact forg_0 n 0 _ j (by omega) (by omega)
theorem run_0 {n j : Nat} (hj : j < n) : ∀ (d t : Nat) (R : Nat → Int32), (run (d + 1) n t R).2.2 (15 + 4 * j) = 0
  | 0, t, R => day_0 n t R hj
  | d + 1, t, R => run_0 hj d _ _
theorem same_L {n t d : Nat} {R : Nat → Int32} {B : StB} (hT : Ti 0 n 0 0 t B 0 R) (h0 : ∀ j, j < n → R (15 + 4 * j) = 0) (ht5 : ∀ j, j < n → ba B 5 j = R (15 + 4 * j)) (hl : bi B 193 9 = Int32.ofNat n) (hb : ∀ j, j < n → ba B 193 j = R (13 + 4 * j)) (a1 a3 a10 a11 : Int32) : ∀ (g nf k : Nat), k + g = n → g < nf → Gz (fun v => v = 1) (ok_L_arePredictionsRight_L198 nf B a1 (Int32.ofNat n) a3 1 a10 a11 (Int32.ofNat k)) (f_L_arePredictionsRight_L198 nf B a1 (Int32.ofNat n) a3 1 a10 a11 (Int32.ofNat k)) := by
  have hn : n ≤ 8 := (Ti_n hT).2.2
  intro g
  induction g with
  | zero =>
    intro nf k hk hnf
    obtain ⟨nf, rfl⟩ : ∃ q, nf = q + 1 := ⟨nf - 1, by omega⟩
    have c : Int32.ofNat n ≤ Int32.ofNat k := by
      rw [le_ofN (by omega) (by omega)]
      omega
    unfold f_L_arePredictionsRight_L198 ok_L_arePredictionsRight_L198
    exact G_pos c ⟨trivial, rfl⟩
  | succ g ih =>
    intro nf k hk hnf
    obtain ⟨nf, rfl⟩ : ∃ q, nf = q + 1 := ⟨nf - 1, by omega⟩
    have c : ¬ Int32.ofNat n ≤ Int32.ofNat k := by
      rw [le_ofN (by omega) (by omega)]
      omega
    have hx : ix (Int32.ofNat k) = k := ix_o (by omega)
    have hv : vp_in (Int32.ofNat k) 8 := in_o (by omega) (by omega)
    have ro := reqAn hT (a := k) (by omega)
    have f1 : f_X6_balanceOf_n B (Int32.ofNat k) = R (13 + 4 * k) := by
      unfold f_X6_balanceOf_n
      rw [hx]
      exact Ti_b hT (by omega)
    have f2 : f_X6_wasTouched_n B (Int32.ofNat k) = 0 := by
      unfold f_X6_wasTouched_n
      rw [hx, ht5 k (by omega)]
      exact h0 k (by omega)
    have o2 : ok_X6_wasTouched_n B (Int32.ofNat k) := by
      refine ⟨ro, hv, ?_⟩
      have : ba B 5 (ix (Int32.ofNat k)) = 0 := f2
      rw [this]
      rfl
    have r1 := ih nf (k + 1) (by omega) (by omega)
    rw [← oad1] at r1
    unfold f_L_arePredictionsRight_L198 ok_L_arePredictionsRight_L198
    refine G_neg c (G_neg (by decide) (G_ok ⟨ro, hv⟩ fun r hr => ⟨⟨?_, ?_⟩, ?_⟩))
    · rw [hl, ix_o (by omega)]
      exact in_o (by omega) (by omega)
    · rw [hr, f1, hx, hb k (by omega)]
      refine ⟨fun _ => ⟨o2, ?_⟩, fun h => absurd rfl h⟩
      intro q hq
      rw [hq, f2]
      exact ⟨fun _ => r1.1, fun h => absurd rfl h⟩
    · rw [hr, f1, hx, hb k (by omega), if_pos rfl, nm_eq, f2, if_pos rfl]
      exact r1.2
/-- those of the first k that are due in d days -/
def mk (d n t : Nat) (R : Nat → Int32) (B : StB) : Nat → List (Int32 × Bool)
  | 0 => []
  | k + 1 => if (R (48 + 5 * tsl t R k)).toInt - (R 0).toInt < (d : Int) then (R (44 + 5 * tsl t R k), decide (ba B 196 k = 0)) :: mk d n t R B k else mk d n t R B k
theorem mk_mem {d n t : Nat} {R : Nat → Int32} {B : StB} {x : Int32 × Bool} : ∀ k, x ∈ mk d n t R B k ↔ ∃ j, j < k ∧ (R (48 + 5 * tsl t R j)).toInt - (R 0).toInt < (d : Int) ∧ x = (R (44 + 5 * tsl t R j), decide (ba B 196 j = 0))
  | 0 => ⟨fun h => absurd h List.not_mem_nil, fun ⟨j, hj, _⟩ => by omega⟩
  | k + 1 => by
    unfold mk
    split
    · rename_i c
      rw [List.mem_cons, mk_mem k]
      constructor
      · rintro (h | ⟨j, h1, h2⟩)
        · exact ⟨k, by omega, c, h⟩
        · exact ⟨j, by omega, h2⟩
      · rintro ⟨j, h1, h2, h3⟩
        by_cases hj : j = k
        · rw [hj] at h3
          exact Or.inl h3
        · exact Or.inr ⟨j, by omega, h2, h3⟩
    · rename_i c
      rw [mk_mem k]
      constructor
      · rintro ⟨j, h1, h2⟩
        exact ⟨j, by omega, h2⟩
      · rintro ⟨j, h1, h2, h3⟩
        by_cases hj : j = k
        · rw [hj] at h2
          exact absurd h2 c
        · exact ⟨j, by omega, h2, h3⟩
theorem mk_nod {d n t : Nat} {R : Nat → Int32} {B : StB} (hu : uq t R) : ∀ k, k ≤ t → (mk d n t R B k).Nodup
  | 0, _ => List.nodup_nil
  | k + 1, h => by
    unfold mk
    split
    · rw [List.nodup_cons]
      refine ⟨fun h9 => ?_, mk_nod hu k (by omega)⟩
      obtain ⟨j, h1, h2, h3⟩ := (mk_mem k).mp h9
      have e := congrArg Prod.fst h3
      have e := hu _ _ (ps_ok (show k < t by omega)).1 (ps_ok (show j < t by omega)).1 e
      have := ps_inj (key := fun j => -(R (48 + 5 * j)).toInt) (show k < t by omega) (show j < t by omega) e
      omega
    · exact mk_nod hu k (by omega)
theorem nodup_fst {l : List (Int32 × Bool)} (h : (l.map Prod.fst).Nodup) : l.Nodup := by
  induction l with
  | nil => exact List.nodup_nil
  | cons a l ih =>
    rw [List.map_cons, List.nodup_cons] at h
    rw [List.nodup_cons]
    exact ⟨fun h9 => h.1 (List.mem_map_of_mem h9), ih h.2⟩
/-- what is told is what happens -/
theorem mk_out {e n t d : Nat} {R : Nat → Int32} {B C : StB} (hT : Ti 0 n 0 0 t C 0 R) (hR : RB e (60 * e) n t 0 0 R) (hX : XX n R) (hd : d ≤ 60) (hb : ∀ j, j < t → Td d n t R B j) : cT (mk d n t R B t) = cT (run d n t R).1 ∧ cF (mk d n t R B t) = cF (run d n t R).1 := by
  have hu := bT_uq hR.2.1
  have he : e ≤ 600 := by
    have := hR.2.2
    unfold bS at this
    exact this.1
  obtain ⟨p1, p2, p3, p4, p5, p6⟩ := P_run d (60 * e) t C R hT hR hX (by omega)
  have ent : ∀ j, j < t → (R (48 + 5 * tsl t R j)).toInt - (R 0).toInt < (d : Int) → (R (44 + 5 * tsl t R j), decide (ba B 196 j = 0)) ∈ (run d n t R).1 := by
    intro j hj h1
    obtain ⟨t1, t2, b, t3, t4⟩ := hb j hj
    have : decide (ba B 196 j = 0) = b := by
      rw [t3]
      cases b <;> rfl
    rw [this]
    exact t4 h1
  have pm : (mk d n t R B t).Perm (run d n t R).1 := by
    refine (List.perm_ext_iff_of_nodup (mk_nod hu t (Nat.le_refl t)) (nodup_fst p6)).mpr (fun x => ?_)
    rw [mk_mem]
    constructor
    · rintro ⟨j, h1, h2, h3⟩
      rw [h3]
      exact ent j h1 h2
    · intro h
      obtain ⟨w, ⟨i, i1, i2, i3⟩, h2⟩ := (p5 x.1).mp (List.mem_map_of_mem h)
      have e : tsl t R (rk (fun j => -(R (48 + 5 * j)).toInt) i t) = i := ps_rk i1
      have hj := (rk_le (fun j => -(R (48 + 5 * j)).toInt) i t).2 i1
      refine ⟨rk (fun j => -(R (48 + 5 * j)).toInt) i t, hj, by rw [e, i3]; omega, ?_⟩
      have h3 := ent _ hj (by rw [e, i3]; omega)
      rw [e, i2] at h3
      rw [e, i2]
      -- two of one id are one
      have : ∀ (l : List (Int32 × Bool)), (l.map Prod.fst).Nodup → ∀ a b : Int32 × Bool, a ∈ l → b ∈ l → a.1 = b.1 → a = b := by
        intro l
        induction l with
        | nil => exact fun _ a b h9 => absurd h9 List.not_mem_nil
        | cons c l ih =>
          intro hl a b ha hb' hab
          rw [List.map_cons, List.nodup_cons] at hl
          rw [List.mem_cons] at ha hb'
          rcases ha with ha | ha
          · rcases hb' with hb' | hb'
            · rw [ha, hb']
            · exact absurd (by rw [← ha, hab]; exact List.mem_map_of_mem hb') hl.1
          · rcases hb' with hb' | hb'
            · exact absurd (by rw [← hb', ← hab]; exact List.mem_map_of_mem ha) hl.1
            · exact ih hl.2 a b ha hb' hab
      exact this _ p6 _ _ h h3 rfl
  exact ⟨(pm.filter _).length_eq, (pm.filter _).length_eq⟩
