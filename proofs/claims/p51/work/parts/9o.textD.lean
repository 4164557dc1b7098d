/-! p51: the law's builder writes the same -/
def CFD (lo : Nat) (B C : StB) : Prop := ix (bi C 194 9) = ix (bi B 194 9) ∧ (∀ q k, bi C q k = bi B q k ∧ (bl C q k, bz C) = (bl B q k, bz B)) ∧ (∀ q k, q ≠ 194 → ba C q k = ba B q k) ∧ (∀ k, k < lo → ba C 194 k = ba B 194 k)
theorem CF_rD (lo : Nat) (B : StB) : CFD lo B B := ⟨rfl, fun _ _ => ⟨rfl, rfl⟩, fun _ _ _ => rfl, fun _ _ => rfl⟩
theorem CF_tD {lo lo' : Nat} {B C D : StB} (h : CFD lo B C) (h2 : CFD lo' C D) (hl : lo' ≤ lo) : CFD lo' B D := ⟨h2.1.trans h.1, fun q k => ⟨(h2.2.1 q k).1.trans (h.2.1 q k).1, (h2.2.1 q k).2.trans (h.2.1 q k).2⟩, fun q k hq => (h2.2.2.1 q k hq).trans (h.2.2.1 q k hq), fun k hk => (h2.2.2.2 k hk).trans (h.2.2.2 k (by omega))⟩
theorem CF_aD {lo j : Nat} (B : StB) (v : Int32) (hj : lo ≤ j) : CFD lo B (sba B 194 j v) := ⟨rfl, fun _ _ => ⟨rfl, rfl⟩, fun q k hq => by rw [ba_sba, if_neg (by omega)], fun k hk => by rw [ba_sba, if_neg (by omega)]⟩
theorem L_gcD (a6 : Int32) : ∀ (g n v D e : Nat) (B : StB), D ≤ 2 * g + 1 → g < n → dgt v D → D + 1 ≤ e → e ≤ 16 → ix (bi B 194 9) = 16 → ok_J6_getChars_ba4f3_D_L22 n B (-(Int32.ofNat v)) (Int32.ofNat e) a6 ∧ ∃ m v' B', f_J6_getChars_ba4f3_D_L22 n B (-(Int32.ofNat v)) (Int32.ofNat e) a6 = (-(Int32.ofNat v'), Int32.ofNat (e - m), B') ∧ m ≤ D ∧ v' < 100 ∧ dgt v' (D - m) ∧ (∀ i, dgv v' i = dgv v (i + m)) ∧ CFD (e - m) B B' ∧ (∀ i, i < m → ba B' 194 (e - 1 - i) = dgv v i) ∧ ∀ k, e ≤ k → ba B' 194 k = ba B 194 k := by
  intro g
  induction g with
  | zero =>
    intro n v D e B hD hn hd he he2 hz
    obtain ⟨n, rfl⟩ : ∃ q, n = q + 1 := ⟨n - 1, by omega⟩
    have hv : v < 100 := by
      apply Classical.byContradiction
      intro hc
      obtain ⟨d, hd2⟩ := dgt_big hd (by omega)
      omega
    have w := (w100 (v := v) (by omega)).mpr hv
    refine ⟨⟨fun _ => trivial, fun h9 => absurd w h9⟩, 0, v, B, ?_, by omega, hv, hd, fun i => rfl, CF_rD _ B, fun i hi => by omega, fun _ _ => rfl⟩
    rw [f_J6_getChars_ba4f3_D_L22, if_pos w]
    rfl
  | succ g ih =>
    intro n v D e B hD hn hd he he2 hz
    obtain ⟨n, rfl⟩ : ∃ q, n = q + 1 := ⟨n - 1, by omega⟩
    have hb := p10_b (D + 1) (by have := hd.2.2; omega)
    have hlt := hd.1
    by_cases hv : v < 100
    · have w := (w100 (v := v) (by omega)).mpr hv
      refine ⟨⟨fun _ => trivial, fun h9 => absurd w h9⟩, 0, v, B, ?_, by omega, hv, hd, fun i => rfl, CF_rD _ B, fun i hi => by omega, fun _ _ => rfl⟩
      rw [f_J6_getChars_ba4f3_D_L22, if_pos w]
      rfl
    · obtain ⟨d, rfl⟩ := dgt_big hd (by omega)
      have w : ¬ ((-100 : Int32) < -(Int32.ofNat v)) := by
        rw [w100 (by omega)]
        exact hv
      obtain ⟨hd2, _⟩ := dgt_100 hd
      have hr : v % 100 < 100 := Nat.mod_lt _ (by decide)
      obtain ⟨tO, tT⟩ := dg_tab (v % 100) hr
      have x1 : ix (Int32.ofNat (v % 100)) = v % 100 := ix_o (by omega)
      have x2 : ix (Int32.ofNat (e - 1)) = e - 1 := ix_o (by omega)
      have x3 : ix (Int32.ofNat (e - 1 - 1)) = e - 1 - 1 := ix_o (by omega)
      have o1 : Int32.ofNat e + (-1) = Int32.ofNat (e - 1) := om1 (by omega)
      have o2 : Int32.ofNat (e - 1) + (-1) = Int32.ofNat (e - 1 - 1) := om1 (by omega)
      rw [← dgv_0] at tO
      rw [← dgv_1] at tT
      have gA : CFD (e - 1 - 1) B (sba (sba B 194 (e - 1) (dgv v 0)) 194 (e - 1 - 1) (dgv v 1)) := CF_tD (CF_aD B _ (Nat.le_refl _)) (CF_aD _ _ (Nat.le_refl _)) (by omega)
      obtain ⟨r1, m, v', B', r2, r3, r4, r5, r6, r7, r8, r9⟩ := ih n (v / 100) d (e - 1 - 1) (sba (sba B 194 (e - 1) (dgv v 0)) 194 (e - 1 - 1) (dgv v 1)) (by omega) (by omega) hd2 (by omega) (by omega) hz
      refine ⟨⟨fun h9 => absurd h9 w, fun _ => ?_⟩, m + 2, v', B', ?_, by omega, r4, ?_, fun i => ?_, ?_, fun i hi => ?_, fun k hk => ?_⟩
      · intro y hy z hzz
        rw [hzz, hy, ndiv (by omega), nmod (by omega), o1, o2, x1, x2, x3, tO, tT]
        refine ⟨in_o hr (by omega), by rw [hz]; exact in_o (by omega) (by omega), ?_⟩
        intro B8 h8
        refine ⟨in_o hr (by omega), ?_, ?_⟩
        · rw [h8]
          show vp_in _ (ix (bi B 194 9))
          rw [hz]
          exact in_o (by omega) (by omega)
        · intro B11 h11
          rw [h11, h8]
          exact r1
      · rw [f_J6_getChars_ba4f3_D_L22, if_neg w, nm_eq, nm_eq, ndiv (by omega), nmod (by omega), o1, o2, x1, x2, x3, tO, tT, nm_eq, nm_eq, r2]
        rw [show e - 1 - 1 - m = e - (m + 2) by omega]
      · rw [show d + 2 - (m + 2) = d - m by omega]
        exact r5
      · rw [r6, dgv_2]
        exact congrArg (dgv v) (by omega)
      · have := CF_tD gA r7 (by omega)
        rw [show e - 1 - 1 - m = e - (m + 2) by omega] at this
        exact this
      · by_cases h0 : i = 0
        · subst h0
          rw [Nat.sub_zero, r9 (e - 1) (by omega), ba_sba, if_neg (by omega), ba_sba, if_pos ⟨rfl, rfl⟩]
        · by_cases h1 : i = 1
          · subst h1
            rw [r9 (e - 1 - 1) (by omega), ba_sba, if_pos ⟨rfl, rfl⟩]
          · have := r8 (i - 2) (by omega)
            rw [dgv_2, show e - 1 - 1 - 1 - (i - 2) = e - 1 - i by omega, show i - 2 + 2 = i by omega] at this
            exact this
      · rw [r9 k (by omega), ba_sba, if_neg (by omega), ba_sba, if_neg (by omega)]
def gcTD (z1 z2 : Int32) (B : StB) (s : Int32) : Int32 × StB := if (-9) ≤ z1 then f_J6_getChars_ba4f3_D_J104 (sba B 194 (ix (z2 + (-1))) (vp_nar .byte (dgO.getD (ix (-z1)) 0))) (z2 + (-1)) s else f_J6_getChars_ba4f3_D_J104 (sba (sba B 194 (ix (z2 + (-1))) (vp_nar .byte (dgO.getD (ix (-z1)) 0))) 194 (ix ((z2 + (-1)) + (-1))) (vp_nar .byte (dgT.getD (ix (-z1)) 0))) ((z2 + (-1)) + (-1)) s
theorem j104D {e : Nat} {B : StB} {s : Int32} (hs : s = 0 ∨ (s = 1 ∧ 0 < e)) (he : e ≤ 16) (hz : ix (bi B 194 9) = 16) : ok_J6_getChars_ba4f3_D_J104 B (Int32.ofNat e) s ∧ (s = 0 → f_J6_getChars_ba4f3_D_J104 B (Int32.ofNat e) s = (Int32.ofNat e, B)) ∧ (s = 1 → f_J6_getChars_ba4f3_D_J104 B (Int32.ofNat e) s = (Int32.ofNat (e - 1), sba B 194 (e - 1) 45)) := by
  refine ⟨⟨fun _ => trivial, fun h => ?_⟩, fun h => ?_, fun h => ?_⟩
  · rcases hs with h0 | ⟨h1, h2⟩
    · exact absurd h0 h
    · rw [om1 h2, hz]
      exact in_o (by omega) (by omega)
  · unfold f_J6_getChars_ba4f3_D_J104
    rw [if_pos h]
  · rcases hs with h0 | ⟨_, h2⟩
    · rw [h] at h0
      exact absurd h0 (by decide)
    · unfold f_J6_getChars_ba4f3_D_J104
      rw [if_neg (by rw [h]; decide), nm_eq, om1 h2, ix_o (by omega)]
      rfl
theorem tail_CD {v D e : Nat} {B : StB} {s : Int32} (hv : v < 100) (hd : dgt v D) (hs : s = 0 ∨ (s = 1 ∧ D + 1 < e)) (hDe : D + 1 ≤ e) (he : e ≤ 16) (hz : ix (bi B 194 9) = 16) : (vp_in (-(-(Int32.ofNat v))) 100 ∧ vp_in (Int32.ofNat e + (-1)) (ix (bi B 194 9)) ∧ (∀ B27 : StB, B27 = (sba B 194 (ix (Int32.ofNat e + (-1))) (vp_nar .byte (dgO.getD (ix (-(-(Int32.ofNat v)))) 0))) → (((-9) ≤ -(Int32.ofNat v) → ok_J6_getChars_ba4f3_D_J104 B27 (Int32.ofNat e + (-1)) s) ∧ (¬ (-9) ≤ -(Int32.ofNat v) → (vp_in (-(-(Int32.ofNat v))) 100 ∧ (vp_in ((Int32.ofNat e + (-1)) + (-1)) (ix (bi B27 194 9)) ∧ (∀ B31 : StB, B31 = (sba B27 194 (ix ((Int32.ofNat e + (-1)) + (-1))) (vp_nar .byte (dgT.getD (ix (-(-(Int32.ofNat v)))) 0))) → ok_J6_getChars_ba4f3_D_J104 B31 ((Int32.ofNat e + (-1)) + (-1)) s))))))) ∧ ∃ C, (gcTD (-(Int32.ofNat v)) (Int32.ofNat e) B s).2 = C ∧ CFD (e - (D + 1) - (if s = 0 then 0 else 1)) B C ∧ (∀ i, i < D + 1 → ba C 194 (e - 1 - i) = dgv v i) ∧ (s = 1 → ba C 194 (e - (D + 1) - 1) = 45) ∧ ∀ k, e ≤ k → ba C 194 k = ba B 194 k := by
  have x0 : ix (-(-(Int32.ofNat v))) = v := by rw [neg2]; exact ix_o (by omega)
  have vi : vp_in (-(-(Int32.ofNat v))) 100 := by rw [neg2]; exact in_o hv (by omega)
  obtain ⟨tO, tT⟩ := dg_tab v hv
  have eO : Int32.ofNat (48 + v % 10) = dgv v 0 := by
    rw [dgv_0]
    exact congrArg Int32.ofNat (by omega)
  have eT : Int32.ofNat (48 + v / 10) = dgv v 1 := by
    rw [dgv_1]
    exact congrArg Int32.ofNat (by omega)
  rw [eO] at tO
  rw [eT] at tT
  have o1 : Int32.ofNat e + (-1) = Int32.ofNat (e - 1) := om1 (by omega)
  have x1 : ix (Int32.ofNat (e - 1)) = e - 1 := ix_o (by omega)
  have w := w9 (v := v) (by omega)
  obtain ⟨h1, h2, h3⟩ := hd
  by_cases hD : D = 0
  · subst hD
    have hv9 : v ≤ 9 := by
      have : p10 (0 + 1) = 10 := rfl
      omega
    have w' := w.mpr hv9
    obtain ⟨j1, j2, j3⟩ := j104D (e := e - 1) (B := sba B 194 (e - 1) (dgv v 0)) (s := s) (hs.imp id (fun h => ⟨h.1, by have := h.2; omega⟩)) (by omega) hz
    rw [x0, o1, x1, tO]
    refine ⟨⟨vi, by rw [hz]; exact in_o (by omega) (by omega), ?_⟩, ?_⟩
    · intro B27 h27
      rw [h27]
      exact ⟨fun _ => j1, fun h9 => absurd w' h9⟩
    · unfold gcTD
      rw [x0, o1, x1, tO, if_pos w']
      rcases hs with h0 | ⟨h1, h2⟩
      · rw [j2 h0]
        refine ⟨_, rfl, ?_, fun i hi => ?_, fun h => ?_, fun k hk => ?_⟩
        · rw [if_pos h0]
          exact CF_aD B _ (by omega)
        · have : i = 0 := by omega
          subst this
          rw [ba_sba, if_pos ⟨rfl, rfl⟩]
        · rw [h0] at h
          exact absurd h (by decide)
        · rw [ba_sba, if_neg (by omega)]
      · rw [j3 h1]
        refine ⟨_, rfl, ?_, fun i hi => ?_, fun _ => ?_, fun k hk => ?_⟩
        · rw [if_neg (by rw [h1]; decide)]
          exact CF_tD (CF_aD B _ (Nat.le_refl _)) (CF_aD _ _ (by omega)) (by omega)
        · have : i = 0 := by omega
          subst this
          rw [ba_sba, if_neg (by omega), ba_sba, if_pos ⟨rfl, rfl⟩]
        · show ba (sba (sba B 194 (e - 1) (dgv v 0)) 194 (e - 1 - 1) 45) 194 (e - (0 + 1) - 1) = 45
          rw [ba_sba, if_pos ⟨rfl, rfl⟩]
        · show ba (sba (sba B 194 (e - 1) (dgv v 0)) 194 (e - 1 - 1) 45) 194 k = _
          rw [ba_sba, if_neg (by omega), ba_sba, if_neg (by omega)]
  · have hD1 : D = 1 := by
      apply Classical.byContradiction
      intro hc
      have := p10_m (show 2 ≤ D by omega)
      have e2 : p10 2 = 100 := by decide
      omega
    subst hD1
    have hv9 : ¬ v ≤ 9 := by
      have : p10 1 = 10 := rfl
      omega
    have w' := mt w.mp hv9
    have o2 : Int32.ofNat (e - 1) + (-1) = Int32.ofNat (e - 1 - 1) := om1 (by omega)
    have x2 : ix (Int32.ofNat (e - 1 - 1)) = e - 1 - 1 := ix_o (by omega)
    obtain ⟨j1, j2, j3⟩ := j104D (e := e - 1 - 1) (B := sba (sba B 194 (e - 1) (dgv v 0)) 194 (e - 1 - 1) (dgv v 1)) (s := s) (hs.imp id (fun h => ⟨h.1, by have := h.2; omega⟩)) (by omega) hz
    rw [x0, o1, x1, o2, x2, tO, tT]
    refine ⟨⟨vi, by rw [hz]; exact in_o (by omega) (by omega), ?_⟩, ?_⟩
    · intro B27 h27
      rw [h27]
      refine ⟨fun h9 => absurd h9 w', fun _ => ⟨vi, ?_, ?_⟩⟩
      · show vp_in _ (ix (bi B 194 9))
        rw [hz]
        exact in_o (by omega) (by omega)
      · intro B31 h31
        rw [h31]
        exact j1
    · unfold gcTD
      rw [x0, o1, x1, o2, x2, tO, tT, if_neg w']
      rcases hs with h0 | ⟨h1, h2⟩
      · rw [j2 h0]
        refine ⟨_, rfl, ?_, fun i hi => ?_, fun h => ?_, fun k hk => ?_⟩
        · rw [if_pos h0]
          exact CF_tD (CF_aD B _ (Nat.le_refl _)) (CF_aD _ _ (by omega)) (by omega)
        · by_cases h0 : i = 0
          · subst h0
            rw [ba_sba, if_neg (by omega), ba_sba, if_pos ⟨rfl, rfl⟩]
          · have : i = 1 := by omega
            subst this
            rw [ba_sba, if_pos ⟨rfl, rfl⟩]
        · rw [h0] at h
          exact absurd h (by decide)
        · rw [ba_sba, if_neg (by omega), ba_sba, if_neg (by omega)]
      · rw [j3 h1]
        refine ⟨_, rfl, ?_, fun i hi => ?_, fun _ => ?_, fun k hk => ?_⟩
        · rw [if_neg (by rw [h1]; decide)]
          exact CF_tD (lo' := e - (1 + 1) - 1) (CF_tD (lo' := e - 1 - 1) (CF_aD B _ (Nat.le_refl _)) (CF_aD _ _ (Nat.le_refl _)) (by omega)) (CF_aD _ _ (by omega)) (by omega)
        · by_cases h0 : i = 0
          · subst h0
            rw [ba_sba, if_neg (by omega), ba_sba, if_neg (by omega), ba_sba, if_pos ⟨rfl, rfl⟩]
          · have : i = 1 := by omega
            subst this
            rw [ba_sba, if_neg (by omega), ba_sba, if_pos ⟨rfl, rfl⟩]
        · show ba (sba (sba (sba B 194 (e - 1) (dgv v 0)) 194 (e - 1 - 1) (dgv v 1)) 194 (e - 1 - 1 - 1) 45) 194 (e - (1 + 1) - 1) = 45
          rw [ba_sba, if_pos ⟨rfl, by omega⟩]
        · show ba (sba (sba (sba B 194 (e - 1) (dgv v 0)) 194 (e - 1 - 1) (dgv v 1)) 194 (e - 1 - 1 - 1) 45) 194 k = _
          rw [ba_sba, if_neg (by omega), ba_sba, if_neg (by omega), ba_sba, if_neg (by omega)]
theorem chars_CD {v D e : Nat} {B : StB} {x : Int32} (s : Int32) (hd : dgt v D) (hx : (0 ≤ x ∧ s = 0 ∧ x = Int32.ofNat v) ∨ (¬ 0 ≤ x ∧ s = 1 ∧ D + 1 < e ∧ x = -(Int32.ofNat v))) (hDe : D + 1 ≤ e) (he : e ≤ 16) (hz : ix (bi B 194 9) = 16) : ok_J6_getChars_ba4f3_D B x (Int32.ofNat e) ∧ CFD (e - (D + 1) - (if s = 0 then 0 else 1)) B (f_J6_getChars_ba4f3_D B x (Int32.ofNat e)).2 ∧ (∀ i, i < D + 1 → ba (f_J6_getChars_ba4f3_D B x (Int32.ofNat e)).2 194 (e - 1 - i) = dgv v i) ∧ (s = 1 → ba (f_J6_getChars_ba4f3_D B x (Int32.ofNat e)).2 194 (e - (D + 1) - 1) = 45) := by
  have hfu : 4 < fu := by unfold fu; omega
  obtain ⟨r1, m, v', B', r2, r3, r4, r5, r6, r7, r8, r9⟩ := L_gcD s 3 fu v D e B (by have := hd.2.2; omega) (by omega) hd hDe he hz
  clear hfu
  have hs' : s = 0 ∨ (s = 1 ∧ D - m + 1 < e - m) := by
    rcases hx with ⟨_, h, _⟩ | ⟨_, h, h2, _⟩
    · exact Or.inl h
    · exact Or.inr ⟨h, by omega⟩
  obtain ⟨t1, C, t2, t3, t4, t5, t6⟩ := tail_CD (e := e - m) (B := B') (s := s) r4 r5 hs' (by omega) (by omega) (r7.1.trans hz)
  have key : f_J6_getChars_ba4f3_D B x (Int32.ofNat e) = gcTD (-(Int32.ofNat v')) (Int32.ofNat (e - m)) B' s := by
    unfold f_J6_getChars_ba4f3_D f_J6_getChars_ba4f3_D_J12 gcTD
    rcases hx with ⟨h1, h2, h3⟩ | ⟨h1, h2, _, h3⟩
    · subst h2
      rw [if_pos h1, if_pos rfl, nm_eq, h3, r2, nm_eq]
      rfl
    · subst h2
      rw [if_neg h1, if_neg (by decide), h3, r2, nm_eq]
      rfl
  have okk : ok_J6_getChars_ba4f3_D B x (Int32.ofNat e) := by
    rcases hx with ⟨h1, h2, h3⟩ | ⟨h1, h2, _, h3⟩
    · subst h2
      refine ⟨fun _ => ⟨fun _ => ?_, fun h9 => absurd rfl h9⟩, fun h9 => absurd h1 h9⟩
      intro y hy
      rw [hy, h3]
      refine ⟨r1, ?_⟩
      intro z hz'
      rw [hz', r2]
      exact t1
    · subst h2
      refine ⟨fun h9 => absurd h9 h1, fun _ => ⟨fun h9 => absurd h9 (by decide), fun _ => ?_⟩⟩
      rw [h3]
      refine ⟨r1, ?_⟩
      intro z hz'
      rw [hz', r2]
      exact t1
  rw [key, t2]
  refine ⟨okk, ?_, fun i hi => ?_, fun h => ?_⟩
  · have := CF_tD r7 t3 (by omega)
    rw [show e - m - (D - m + 1) = e - (D + 1) by omega] at this
    exact this
  · by_cases him : i < m
    · rw [t6 _ (by omega)]
      exact r8 i him
    · have := t4 (i - m) (by omega)
      rw [r6, show e - m - 1 - (i - m) = e - 1 - i by omega, show i - m + m = i by omega] at this
      exact this
  · have := t5 h
    rw [show e - m - (D - m + 1) - 1 = e - (D + 1) - 1 by omega] at this
    exact this
def WtD (L : Nat) (B0 : StB) (M0 : StM) (B : StB) (M : StM) : Prop := bi B 193 3 = Int32.ofNat L ∧ ix (bi B 194 9) = 16 ∧ (∀ k, k < L → ba B 194 k = ma M 6 k ∧ 0 ≤ (ma M 6 k).toInt ∧ (ma M 6 k).toInt ≤ 127) ∧ Fg 193 195 B0 B ∧ NF 0 M0 M
theorem ens_CD {B : StB} {L : Nat} (h : ix (bi B 194 9) = 16) (hL : L ≤ 16) : f_J5_ensureCapacityInternal_d00df_D B (Int32.ofNat L) = B ∧ ok_J5_ensureCapacityInternal_d00df_D B (Int32.ofNat L) := by
  refine ⟨rfl, ?_⟩
  intro v hv
  rw [hv, h]
  exact ens_16 L (by omega)
theorem app_nuD {L v D s : Nat} {x : Int32} {B0 B : StB} {M0 M : StM} (h : WtD L B0 M0 B M) (hd : dgt v D) (hx : (0 ≤ x ∧ s = 0 ∧ x = Int32.ofNat v) ∨ (¬ 0 ≤ x ∧ s = 1 ∧ x = -(Int32.ofNat v))) (hL : L + s + (D + 1) ≤ 16) : ∃ C N, f_J4_append_bf812_D B x = C ∧ ok_J4_append_bf812_D B x ∧ f_X7_writesNumber M (Int32.ofNat L) x = (Int32.ofNat (L + s + (D + 1)), N) ∧ ok_X7_writesNumber M (Int32.ofNat L) x ∧ WtD (L + s + (D + 1)) B0 M0 C N := by
  obtain ⟨h1, h2, h3, h4, h5⟩ := h
  have hD := hd.2.2
  have hb := p10_b (D + 1) (by omega)
  have hlt := hd.1
  obtain ⟨z1, z2⟩ := size_C s hd hx
  have ev : Int32.ofNat L + Int32.ofNat (D + 1 + s) = Int32.ofNat (L + s + (D + 1)) := by
    rw [oadd]
    exact congrArg Int32.ofNat (by omega)
  obtain ⟨c1, c2⟩ := ens_CD (L := L + s + (D + 1)) h2 (by omega)
  have hs1 : s ≤ 1 := by
    rcases hx with ⟨_, h, _⟩ | ⟨_, h, _⟩ <;> omega
  obtain ⟨g1, g2, g3, g4⟩ := chars_CD (B := B) (e := L + s + (D + 1)) (x := x) (Int32.ofNat s) hd (by
    rcases hx with ⟨p1, p2, p3⟩ | ⟨p1, p2, p3⟩
    · exact Or.inl ⟨p1, by rw [p2]; rfl, p3⟩
    · exact Or.inr ⟨p1, by rw [p2]; rfl, by omega, p3⟩) (by omega) (by omega) h2
  have ef : f_J4_append_bf812_D B x = sbi (f_J6_getChars_ba4f3_D B x (Int32.ofNat (L + s + (D + 1)))).2 193 3 (Int32.ofNat (L + s + (D + 1))) := by
    unfold f_J4_append_bf812_D f_J5_append_c97b9_D
    rw [nm_eq, nm_eq, h1, nm_eq, z2, nm_eq, ev, c1, nm_eq, nm_eq, nm_eq]
    rfl
  have oC : ok_J4_append_bf812_D B x := by
    show ok_J5_append_c97b9_D B x
    intro v1 hv1
    refine ⟨z1, ?_⟩
    intro r3 hr3 v4 hv4
    have e4 : v4 = Int32.ofNat (L + s + (D + 1)) := by rw [hv4, hv1, hr3, h1, z2, ev]
    rw [e4]
    refine ⟨c2, ?_⟩
    rw [c1]
    intro B6 h6
    rw [h6]
    intro r hr
    exact ⟨by rw [hr]; exact (by decide : ¬ (1 : Int32) = 0), g1⟩
  generalize (f_J6_getChars_ba4f3_D B x (Int32.ofNat (L + s + (D + 1)))).2 = C at g2 g3 g4 ef
  have hi0 : (Int32.ofNat s = 0) ↔ s = 0 := ofN_inj (b := 0) (by omega) (by omega)
  have elo : L + s + (D + 1) - (D + 1) - (if Int32.ofNat s = 0 then 0 else 1) = L := by
    by_cases hs0 : s = 0
    · rw [if_pos (hi0.mpr hs0)]
      omega
    · rw [if_neg (mt hi0.mp hs0)]
      omega
  rw [elo] at g2
  -- the model
  have mod : ∃ N, f_X7_writesNumber M (Int32.ofNat L) x = (Int32.ofNat (L + s + (D + 1)), N) ∧ ok_X7_writesNumber M (Int32.ofNat L) x ∧ NF L M N ∧ (∀ i, i < D + 1 → ma N 6 (L + s + (D + 1) - 1 - i) = dgv v i) ∧ (s = 1 → ma N 6 L = 45) := by
    rcases hx with ⟨p1, p2, p3⟩ | ⟨p1, p2, p3⟩
    · subst p2
      have hm : mabs x = Int32.ofNat v := by
        unfold mabs
        rw [if_pos p1, p3]
      obtain ⟨j1, N, j2, j3, j4⟩ := J15_M (M := M) (L := L) hd hm (by omega)
      refine ⟨N, ?_, ⟨fun _ => j1, fun h9 => absurd p1 h9⟩, j3, j4, fun h => absurd h (by decide)⟩
      unfold f_X7_writesNumber
      rw [if_pos p1]
      exact j2
    · subst p2
      have hm : mabs x = Int32.ofNat v := by
        unfold mabs
        rw [if_neg p1, p3, Int32.zero_sub, neg2]
      obtain ⟨P1, P2, P3⟩ := putM (p := L) M 45 (by omega)
      obtain ⟨j1, N, j2, j3, j4⟩ := J15_M (M := sma M 6 L 45) (L := L + 1) hd hm (by omega)
      refine ⟨N, ?_, ⟨fun h9 => absurd h9 p1, fun _ => ⟨P2, ?_⟩⟩, NF_t P3 j3 (by omega), j4, fun _ => ?_⟩
      · unfold f_X7_writesNumber
        rw [if_neg p1, nm_eq, P1]
        exact j2
      · intro z hz
        rw [hz, P1]
        exact j1
      · rw [j3.2.2 L (by omega), ma_sma, if_pos ⟨rfl, rfl⟩]
  obtain ⟨N, n1, n2, n3, n4, n5⟩ := mod
  refine ⟨_, N, ef, oC, n1, n2, ?_, ?_, fun k hk => ?_, ?_, NF_t h5 n3 (by omega)⟩
  · rw [bi_sbi, if_pos ⟨rfl, rfl⟩]
  · exact g2.1.trans h2
  · rw [ba_sbi]
    by_cases hkL : k < L
    · rw [g2.2.2.2 k hkL, n3.2.2 k hkL]
      exact h3 k hkL
    · by_cases hks : k < L + s
      · have hs' : s = 1 := by omega
        have hk' : k = L := by omega
        have a := g4 (by rw [hs']; rfl)
        rw [show L + s + (D + 1) - (D + 1) - 1 = L by omega] at a
        rw [hk', a, n5 hs']
        exact ⟨rfl, by decide, by decide⟩
      · have a := g3 (L + s + (D + 1) - 1 - k) (by omega)
        have b := n4 (L + s + (D + 1) - 1 - k) (by omega)
        rw [show L + s + (D + 1) - 1 - (L + s + (D + 1) - 1 - k) = k by omega] at a b
        rw [a, b]
        exact ⟨rfl, dgv_b v _⟩
  · refine Fg_t h4 (Fg_t ⟨(Prod.mk.inj (g2.2.1 0 0).2).2, fun q k hq => ⟨(g2.2.1 q k).1, (Prod.mk.inj (g2.2.1 q k).2).1, g2.2.2.1 q k (by omega)⟩⟩ (Fg_i (Fg_r _ _ _) _ _ (by omega) (by omega)))
