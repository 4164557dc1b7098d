/-! the pure part: the class's digits -/
def CF (lo : Nat) (B C : StB) : Prop := bz C = bz B ∧ (∀ q k, bi C q k = bi B q k ∧ bl C q k = bl B q k) ∧ (∀ q k, q ≠ 192 → ba C q k = ba B q k) ∧ (∀ k, k < lo → ba C 192 k = ba B 192 k)
theorem CF_r (lo : Nat) (B : StB) : CF lo B B := ⟨rfl, fun _ _ => ⟨rfl, rfl⟩, fun _ _ _ => rfl, fun _ _ => rfl⟩
theorem CF_t {lo lo' : Nat} {B C D : StB} (h : CF lo B C) (h2 : CF lo' C D) (hl : lo' ≤ lo) : CF lo' B D := ⟨h2.1.trans h.1, fun q k => ⟨(h2.2.1 q k).1.trans (h.2.1 q k).1, (h2.2.1 q k).2.trans (h.2.1 q k).2⟩, fun q k hq => (h2.2.2.1 q k hq).trans (h.2.2.1 q k hq), fun k hk => (h2.2.2.2 k hk).trans (h.2.2.2 k (by omega))⟩
theorem CF_a {lo j : Nat} (B : StB) (v : Int32) (hj : lo ≤ j) : CF lo B (sba B 192 j v) := ⟨rfl, fun _ _ => ⟨rfl, rfl⟩, fun q k hq => by rw [ba_sba, if_neg (by omega)], fun k hk => by rw [ba_sba, if_neg (by omega)]⟩
theorem om1 {e : Nat} (h : 0 < e) : Int32.ofNat e + (-1) = Int32.ofNat (e - 1) := by
  rw [show (-1 : Int32) = -(Int32.ofNat 1) from rfl, ← Int32.sub_eq_add_neg, osub (by omega)]
theorem w100 {v : Nat} (h : v < 1000000000) : ((-100 : Int32) < -(Int32.ofNat v)) ↔ v < 100 := by
  rw [i32_lt, ng_int h, l100.2.1]
  omega
theorem w9 {v : Nat} (h : v < 1000000000) : ((-9 : Int32) ≤ -(Int32.ofNat v)) ↔ v ≤ 9 := by
  rw [i32_le, ng_int h, l100.2.2.1]
  omega
theorem dgt_100 {v D : Nat} (h : dgt v (D + 2)) : dgt (v / 100) D ∧ 100 ≤ v := by
  obtain ⟨h1, h2, h3⟩ := h
  have e1 := p10_s (D + 2)
  have e2 := p10_s (D + 1)
  have e3 := p10_s D
  have e4 := p10_b D (by omega)
  have hp : p10 (D + 2) ≤ v := by
    rcases h2 with h2 | h2
    · omega
    · exact h2
  have e1' : p10 (D + 2 + 1) = 10 * p10 (D + 1 + 1) := e1
  have e2' : p10 (D + 2) = 10 * p10 (D + 1) := e2
  have e0 : p10 (D + 1 + 1) = p10 (D + 2) := rfl
  rw [e1', e0, e2', e3] at h1
  rw [e2', e3] at hp
  have g1 : v / 100 < p10 (D + 1) := by
    rw [e3]
    omega
  exact ⟨⟨g1, Or.inr (by omega), by omega⟩, by omega⟩
theorem dgt_big {v D : Nat} (h : dgt v D) (hv : 100 ≤ v) : ∃ d, D = d + 2 := by
  refine ⟨D - 2, ?_⟩
  have h1 := h.1
  have : ¬ D < 2 := by
    intro hD
    have := p10_m (show D + 1 ≤ 2 by omega)
    have e : p10 2 = 100 := by decide
    omega
  omega
theorem dgv_2 (v i : Nat) : dgv (v / 100) i = dgv v (i + 2) := by
  unfold dgv
  have e : p10 (i + 2) = 100 * p10 i := by
    have e1 : p10 (i + 2) = 10 * p10 (i + 1) := rfl
    have e2 := p10_s i
    omega
  rw [e, Nat.div_div_eq_div_mul]
theorem dgv_0 (v : Nat) : dgv v 0 = Int32.ofNat (48 + v % 100 % 10) := by
  unfold dgv
  rw [show p10 0 = 1 from rfl, Nat.div_one]
  exact congrArg Int32.ofNat (by omega)
theorem dgv_1 (v : Nat) : dgv v 1 = Int32.ofNat (48 + v % 100 / 10) := by
  unfold dgv
  rw [show p10 1 = 10 from rfl]
  exact congrArg Int32.ofNat (by omega)
theorem L_gc (a6 : Int32) : ∀ (g n v D e : Nat) (B : StB), D ≤ 2 * g + 1 → g < n → dgt v D → D + 1 ≤ e → e ≤ 16 → bz B = 16 → ok_J6_getChars_ba4f3_L22 n B (-(Int32.ofNat v)) (Int32.ofNat e) a6 ∧ ∃ m v' B', f_J6_getChars_ba4f3_L22 n B (-(Int32.ofNat v)) (Int32.ofNat e) a6 = (-(Int32.ofNat v'), Int32.ofNat (e - m), B') ∧ m ≤ D ∧ v' < 100 ∧ dgt v' (D - m) ∧ (∀ i, dgv v' i = dgv v (i + m)) ∧ CF (e - m) B B' ∧ (∀ i, i < m → ba B' 192 (e - 1 - i) = dgv v i) ∧ ∀ k, e ≤ k → ba B' 192 k = ba B 192 k := by
  intro g
  induction g with
  | zero =>
    intro n v D e B hD hn hd he he2 hz
    obtain ⟨n, rfl⟩ : ∃ q, n = q + 1 := ⟨n - 1, by omega⟩
    have hv : v < 100 := by
      apply Classical.byContradiction
      intro hc
      obtain ⟨d, hd2⟩ := dgt_big hd (by omega)
      omega
    have w := (w100 (v := v) (by omega)).mpr hv
    refine ⟨⟨fun _ => trivial, fun h9 => absurd w h9⟩, 0, v, B, ?_, by omega, hv, hd, fun i => rfl, CF_r _ B, fun i hi => by omega, fun _ _ => rfl⟩
    rw [f_J6_getChars_ba4f3_L22, if_pos w]
    rfl
  | succ g ih =>
    intro n v D e B hD hn hd he he2 hz
    obtain ⟨n, rfl⟩ : ∃ q, n = q + 1 := ⟨n - 1, by omega⟩
    have hb := p10_b (D + 1) (by have := hd.2.2; omega)
    have hlt := hd.1
    by_cases hv : v < 100
    · have w := (w100 (v := v) (by omega)).mpr hv
      refine ⟨⟨fun _ => trivial, fun h9 => absurd w h9⟩, 0, v, B, ?_, by omega, hv, hd, fun i => rfl, CF_r _ B, fun i hi => by omega, fun _ _ => rfl⟩
      rw [f_J6_getChars_ba4f3_L22, if_pos w]
      rfl
    · obtain ⟨d, rfl⟩ := dgt_big hd (by omega)
      have w : ¬ ((-100 : Int32) < -(Int32.ofNat v)) := by
        rw [w100 (by omega)]
        exact hv
      obtain ⟨hd2, _⟩ := dgt_100 hd
      have hr : v % 100 < 100 := Nat.mod_lt _ (by decide)
      obtain ⟨tO, tT⟩ := dg_tab (v % 100) hr
      have x1 : ix (Int32.ofNat (v % 100)) = v % 100 := ix_o (by omega)
      have x2 : ix (Int32.ofNat (e - 1)) = e - 1 := ix_o (by omega)
      have x3 : ix (Int32.ofNat (e - 1 - 1)) = e - 1 - 1 := ix_o (by omega)
      have o1 : Int32.ofNat e + (-1) = Int32.ofNat (e - 1) := om1 (by omega)
      have o2 : Int32.ofNat (e - 1) + (-1) = Int32.ofNat (e - 1 - 1) := om1 (by omega)
      rw [← dgv_0] at tO
      rw [← dgv_1] at tT
      have gA : CF (e - 1 - 1) B (sba (sba B 192 (e - 1) (dgv v 0)) 192 (e - 1 - 1) (dgv v 1)) := CF_t (CF_a B _ (Nat.le_refl _)) (CF_a _ _ (Nat.le_refl _)) (by omega)
      obtain ⟨r1, m, v', B', r2, r3, r4, r5, r6, r7, r8, r9⟩ := ih n (v / 100) d (e - 1 - 1) (sba (sba B 192 (e - 1) (dgv v 0)) 192 (e - 1 - 1) (dgv v 1)) (by omega) (by omega) hd2 (by omega) (by omega) hz
      refine ⟨⟨fun h9 => absurd h9 w, fun _ => ?_⟩, m + 2, v', B', ?_, by omega, r4, ?_, fun i => ?_, ?_, fun i hi => ?_, fun k hk => ?_⟩
      · intro y hy z hzz
        rw [hzz, hy, ndiv (by omega), nmod (by omega), o1, o2, x1, x2, x3, tO, tT]
        refine ⟨in_o hr (by omega), by rw [hz]; exact in_o (by omega) (by omega), ?_⟩
        intro B8 h8
        refine ⟨in_o hr (by omega), ?_, ?_⟩
        · rw [h8]
          show vp_in _ (bz B)
          rw [hz]
          exact in_o (by omega) (by omega)
        · intro B11 h11
          rw [h11, h8]
          exact r1
      · rw [f_J6_getChars_ba4f3_L22, if_neg w, nm_eq, nm_eq, ndiv (by omega), nmod (by omega), o1, o2, x1, x2, x3, tO, tT, nm_eq, nm_eq, r2]
        rw [show e - 1 - 1 - m = e - (m + 2) by omega]
      · rw [show d + 2 - (m + 2) = d - m by omega]
        exact r5
      · rw [r6, dgv_2]
        exact congrArg (dgv v) (by omega)
      · have := CF_t gA r7 (by omega)
        rw [show e - 1 - 1 - m = e - (m + 2) by omega] at this
        exact this
      · by_cases h0 : i = 0
        · subst h0
          rw [Nat.sub_zero, r9 (e - 1) (by omega), ba_sba, if_neg (by omega), ba_sba, if_pos ⟨rfl, rfl⟩]
        · by_cases h1 : i = 1
          · subst h1
            rw [r9 (e - 1 - 1) (by omega), ba_sba, if_pos ⟨rfl, rfl⟩]
          · have := r8 (i - 2) (by omega)
            rw [dgv_2, show e - 1 - 1 - 1 - (i - 2) = e - 1 - i by omega, show i - 2 + 2 = i by omega] at this
            exact this
      · rw [r9 k (by omega), ba_sba, if_neg (by omega), ba_sba, if_neg (by omega)]
theorem neg2 (v : Nat) : -(-(Int32.ofNat v)) = Int32.ofNat v := Int32.neg_neg
/-- behind the loop: what is left, and the sign -/
def gcT (z1 z2 : Int32) (B : StB) (s : Int32) : Int32 × StB := if (-9) ≤ z1 then f_J6_getChars_ba4f3_J104 (sba B 192 (ix (z2 + (-1))) (vp_nar .byte (dgO.getD (ix (-z1)) 0))) (z2 + (-1)) s else f_J6_getChars_ba4f3_J104 (sba (sba B 192 (ix (z2 + (-1))) (vp_nar .byte (dgO.getD (ix (-z1)) 0))) 192 (ix ((z2 + (-1)) + (-1))) (vp_nar .byte (dgT.getD (ix (-z1)) 0))) ((z2 + (-1)) + (-1)) s
theorem j104 {e : Nat} {B : StB} {s : Int32} (hs : s = 0 ∨ (s = 1 ∧ 0 < e)) (he : e ≤ 16) (hz : bz B = 16) : ok_J6_getChars_ba4f3_J104 B (Int32.ofNat e) s ∧ (s = 0 → f_J6_getChars_ba4f3_J104 B (Int32.ofNat e) s = (Int32.ofNat e, B)) ∧ (s = 1 → f_J6_getChars_ba4f3_J104 B (Int32.ofNat e) s = (Int32.ofNat (e - 1), sba B 192 (e - 1) 45)) := by
  refine ⟨⟨fun _ => trivial, fun h => ?_⟩, fun h => ?_, fun h => ?_⟩
  · rcases hs with h0 | ⟨h1, h2⟩
    · exact absurd h0 h
    · rw [om1 h2, hz]
      exact in_o (by omega) (by omega)
  · unfold f_J6_getChars_ba4f3_J104
    rw [if_pos h]
  · rcases hs with h0 | ⟨_, h2⟩
    · rw [h] at h0
      exact absurd h0 (by decide)
    · unfold f_J6_getChars_ba4f3_J104
      rw [if_neg (by rw [h]; decide), nm_eq, om1 h2, ix_o (by omega)]
      rfl
theorem tail_C {v D e : Nat} {B : StB} {s : Int32} (hv : v < 100) (hd : dgt v D) (hs : s = 0 ∨ (s = 1 ∧ D + 1 < e)) (hDe : D + 1 ≤ e) (he : e ≤ 16) (hz : bz B = 16) : (vp_in (-(-(Int32.ofNat v))) 100 ∧ vp_in (Int32.ofNat e + (-1)) (bz B) ∧ (∀ B27 : StB, B27 = (sba B 192 (ix (Int32.ofNat e + (-1))) (vp_nar .byte (dgO.getD (ix (-(-(Int32.ofNat v)))) 0))) → (((-9) ≤ -(Int32.ofNat v) → ok_J6_getChars_ba4f3_J104 B27 (Int32.ofNat e + (-1)) s) ∧ (¬ (-9) ≤ -(Int32.ofNat v) → (vp_in (-(-(Int32.ofNat v))) 100 ∧ (vp_in ((Int32.ofNat e + (-1)) + (-1)) (bz B27) ∧ (∀ B31 : StB, B31 = (sba B27 192 (ix ((Int32.ofNat e + (-1)) + (-1))) (vp_nar .byte (dgT.getD (ix (-(-(Int32.ofNat v)))) 0))) → ok_J6_getChars_ba4f3_J104 B31 ((Int32.ofNat e + (-1)) + (-1)) s))))))) ∧ ∃ C, (gcT (-(Int32.ofNat v)) (Int32.ofNat e) B s).2 = C ∧ CF (e - (D + 1) - (if s = 0 then 0 else 1)) B C ∧ (∀ i, i < D + 1 → ba C 192 (e - 1 - i) = dgv v i) ∧ (s = 1 → ba C 192 (e - (D + 1) - 1) = 45) ∧ ∀ k, e ≤ k → ba C 192 k = ba B 192 k := by
  have x0 : ix (-(-(Int32.ofNat v))) = v := by rw [neg2]; exact ix_o (by omega)
  have vi : vp_in (-(-(Int32.ofNat v))) 100 := by rw [neg2]; exact in_o hv (by omega)
  obtain ⟨tO, tT⟩ := dg_tab v hv
  have eO : Int32.ofNat (48 + v % 10) = dgv v 0 := by
    rw [dgv_0]
    exact congrArg Int32.ofNat (by omega)
  have eT : Int32.ofNat (48 + v / 10) = dgv v 1 := by
    rw [dgv_1]
    exact congrArg Int32.ofNat (by omega)
  rw [eO] at tO
  rw [eT] at tT
  have o1 : Int32.ofNat e + (-1) = Int32.ofNat (e - 1) := om1 (by omega)
  have x1 : ix (Int32.ofNat (e - 1)) = e - 1 := ix_o (by omega)
  have w := w9 (v := v) (by omega)
  obtain ⟨h1, h2, h3⟩ := hd
  by_cases hD : D = 0
  · subst hD
    have hv9 : v ≤ 9 := by
      have : p10 (0 + 1) = 10 := rfl
      omega
    have w' := w.mpr hv9
    obtain ⟨j1, j2, j3⟩ := j104 (e := e - 1) (B := sba B 192 (e - 1) (dgv v 0)) (s := s) (hs.imp id (fun h => ⟨h.1, by have := h.2; omega⟩)) (by omega) hz
    rw [x0, o1, x1, tO]
    refine ⟨⟨vi, by rw [hz]; exact in_o (by omega) (by omega), ?_⟩, ?_⟩
    · intro B27 h27
      rw [h27]
      exact ⟨fun _ => j1, fun h9 => absurd w' h9⟩
    · unfold gcT
      rw [x0, o1, x1, tO, if_pos w']
      rcases hs with h0 | ⟨h1, h2⟩
      · rw [j2 h0]
        refine ⟨_, rfl, ?_, fun i hi => ?_, fun h => ?_, fun k hk => ?_⟩
        · rw [if_pos h0]
          exact CF_a B _ (by omega)
        · have : i = 0 := by omega
          subst this
          rw [ba_sba, if_pos ⟨rfl, rfl⟩]
        · rw [h0] at h
          exact absurd h (by decide)
        · rw [ba_sba, if_neg (by omega)]
      · rw [j3 h1]
        refine ⟨_, rfl, ?_, fun i hi => ?_, fun _ => ?_, fun k hk => ?_⟩
        · rw [if_neg (by rw [h1]; decide)]
          exact CF_t (CF_a B _ (Nat.le_refl _)) (CF_a _ _ (by omega)) (by omega)
        · have : i = 0 := by omega
          subst this
          rw [ba_sba, if_neg (by omega), ba_sba, if_pos ⟨rfl, rfl⟩]
        · show ba (sba (sba B 192 (e - 1) (dgv v 0)) 192 (e - 1 - 1) 45) 192 (e - (0 + 1) - 1) = 45
          rw [ba_sba, if_pos ⟨rfl, rfl⟩]
        · show ba (sba (sba B 192 (e - 1) (dgv v 0)) 192 (e - 1 - 1) 45) 192 k = _
          rw [ba_sba, if_neg (by omega), ba_sba, if_neg (by omega)]
  · have hD1 : D = 1 := by
      apply Classical.byContradiction
      intro hc
      have := p10_m (show 2 ≤ D by omega)
      have e2 : p10 2 = 100 := by decide
      omega
    subst hD1
    have hv9 : ¬ v ≤ 9 := by
      have : p10 1 = 10 := rfl
      omega
    have w' := mt w.mp hv9
    have o2 : Int32.ofNat (e - 1) + (-1) = Int32.ofNat (e - 1 - 1) := om1 (by omega)
    have x2 : ix (Int32.ofNat (e - 1 - 1)) = e - 1 - 1 := ix_o (by omega)
    obtain ⟨j1, j2, j3⟩ := j104 (e := e - 1 - 1) (B := sba (sba B 192 (e - 1) (dgv v 0)) 192 (e - 1 - 1) (dgv v 1)) (s := s) (hs.imp id (fun h => ⟨h.1, by have := h.2; omega⟩)) (by omega) hz
    rw [x0, o1, x1, o2, x2, tO, tT]
    refine ⟨⟨vi, by rw [hz]; exact in_o (by omega) (by omega), ?_⟩, ?_⟩
    · intro B27 h27
      rw [h27]
      refine ⟨fun h9 => absurd h9 w', fun _ => ⟨vi, ?_, ?_⟩⟩
      · show vp_in _ (bz B)
        rw [hz]
        exact in_o (by omega) (by omega)
      · intro B31 h31
        rw [h31]
        exact j1
    · unfold gcT
      rw [x0, o1, x1, o2, x2, tO, tT, if_neg w']
      rcases hs with h0 | ⟨h1, h2⟩
      · rw [j2 h0]
        refine ⟨_, rfl, ?_, fun i hi => ?_, fun h => ?_, fun k hk => ?_⟩
        · rw [if_pos h0]
          exact CF_t (CF_a B _ (Nat.le_refl _)) (CF_a _ _ (by omega)) (by omega)
        · by_cases h0 : i = 0
          · subst h0
            rw [ba_sba, if_neg (by omega), ba_sba, if_pos ⟨rfl, rfl⟩]
          · have : i = 1 := by omega
            subst this
            rw [ba_sba, if_pos ⟨rfl, rfl⟩]
        · rw [h0] at h
          exact absurd h (by decide)
        · rw [ba_sba, if_neg (by omega), ba_sba, if_neg (by omega)]
      · rw [j3 h1]
        refine ⟨_, rfl, ?_, fun i hi => ?_, fun _ => ?_, fun k hk => ?_⟩
        · rw [if_neg (by rw [h1]; decide)]
          exact CF_t (lo' := e - (1 + 1) - 1) (CF_t (lo' := e - 1 - 1) (CF_a B _ (Nat.le_refl _)) (CF_a _ _ (Nat.le_refl _)) (by omega)) (CF_a _ _ (by omega)) (by omega)
        · by_cases h0 : i = 0
          · subst h0
            rw [ba_sba, if_neg (by omega), ba_sba, if_neg (by omega), ba_sba, if_pos ⟨rfl, rfl⟩]
          · have : i = 1 := by omega
            subst this
            rw [ba_sba, if_neg (by omega), ba_sba, if_pos ⟨rfl, rfl⟩]
        · show ba (sba (sba (sba B 192 (e - 1) (dgv v 0)) 192 (e - 1 - 1) (dgv v 1)) 192 (e - 1 - 1 - 1) 45) 192 (e - (1 + 1) - 1) = 45
          rw [ba_sba, if_pos ⟨rfl, by omega⟩]
        · show ba (sba (sba (sba B 192 (e - 1) (dgv v 0)) 192 (e - 1 - 1) (dgv v 1)) 192 (e - 1 - 1 - 1) 45) 192 k = _
          rw [ba_sba, if_neg (by omega), ba_sba, if_neg (by omega), ba_sba, if_neg (by omega)]
/-- the whole number, from its end -/
theorem chars_C {v D e : Nat} {B : StB} {x : Int32} (s : Int32) (hd : dgt v D) (hx : (0 ≤ x ∧ s = 0 ∧ x = Int32.ofNat v) ∨ (¬ 0 ≤ x ∧ s = 1 ∧ D + 1 < e ∧ x = -(Int32.ofNat v))) (hDe : D + 1 ≤ e) (he : e ≤ 16) (hz : bz B = 16) : ok_J6_getChars_ba4f3 B x (Int32.ofNat e) ∧ CF (e - (D + 1) - (if s = 0 then 0 else 1)) B (f_J6_getChars_ba4f3 B x (Int32.ofNat e)).2 ∧ (∀ i, i < D + 1 → ba (f_J6_getChars_ba4f3 B x (Int32.ofNat e)).2 192 (e - 1 - i) = dgv v i) ∧ (s = 1 → ba (f_J6_getChars_ba4f3 B x (Int32.ofNat e)).2 192 (e - (D + 1) - 1) = 45) := by
  have hfu : 4 < fu := by unfold fu; omega
  obtain ⟨r1, m, v', B', r2, r3, r4, r5, r6, r7, r8, r9⟩ := L_gc s 3 fu v D e B (by have := hd.2.2; omega) (by omega) hd hDe he hz
  clear hfu
  have hs' : s = 0 ∨ (s = 1 ∧ D - m + 1 < e - m) := by
    rcases hx with ⟨_, h, _⟩ | ⟨_, h, h2, _⟩
    · exact Or.inl h
    · exact Or.inr ⟨h, by omega⟩
  obtain ⟨t1, C, t2, t3, t4, t5, t6⟩ := tail_C (e := e - m) (B := B') (s := s) r4 r5 hs' (by omega) (by omega) (r7.1.trans hz)
  have key : f_J6_getChars_ba4f3 B x (Int32.ofNat e) = gcT (-(Int32.ofNat v')) (Int32.ofNat (e - m)) B' s := by
    unfold f_J6_getChars_ba4f3 f_J6_getChars_ba4f3_J12 gcT
    rcases hx with ⟨h1, h2, h3⟩ | ⟨h1, h2, _, h3⟩
    · subst h2
      rw [if_pos h1, if_pos rfl, nm_eq, h3, r2, nm_eq]
      rfl
    · subst h2
      rw [if_neg h1, if_neg (by decide), h3, r2, nm_eq]
      rfl
  have okk : ok_J6_getChars_ba4f3 B x (Int32.ofNat e) := by
    rcases hx with ⟨h1, h2, h3⟩ | ⟨h1, h2, _, h3⟩
    · subst h2
      refine ⟨fun _ => ⟨fun _ => ?_, fun h9 => absurd rfl h9⟩, fun h9 => absurd h1 h9⟩
      intro y hy
      rw [hy, h3]
      refine ⟨r1, ?_⟩
      intro z hz'
      rw [hz', r2]
      exact t1
    · subst h2
      refine ⟨fun h9 => absurd h9 h1, fun _ => ⟨fun h9 => absurd h9 (by decide), fun _ => ?_⟩⟩
      rw [h3]
      refine ⟨r1, ?_⟩
      intro z hz'
      rw [hz', r2]
      exact t1
  rw [key, t2]
  refine ⟨okk, ?_, fun i hi => ?_, fun h => ?_⟩
  · have := CF_t r7 t3 (by omega)
    rw [show e - m - (D - m + 1) = e - (D + 1) by omega] at this
    exact this
  · by_cases him : i < m
    · rw [t6 _ (by omega)]
      exact r8 i him
    · have := t4 (i - m) (by omega)
      rw [r6, show e - m - 1 - (i - m) = e - 1 - i by omega, show i - m + m = i by omega] at this
      exact this
  · have := t5 h
    rw [show e - m - (D - m + 1) - 1 = e - (D + 1) - 1 by omega] at this
    exact this
