/-! the pure part: a program, read by the model -/
def pgc (T : Nat → Int32) (ty g c s : Nat) : Bool × Nat × Nat := if s < ty then (if T s = 59 then pg T ty g c (s + 1) else (false, c - 1, s)) else (true, c, s)
theorem pg_s (T : Nat → Int32) (ty g c s : Nat) : pg T ty (g + 1) c s = if (pc T ty s (fun _ => 0)).1 = true then pgc T ty g (c + 1) (pc T ty s (fun _ => 0)).2.1 else (false, c, (pc T ty s (fun _ => 0)).2.1) := rfl
/-- the program that the model holds: m commands from k on, that begin at s -/
def HP (T : Nat → Int32) (ty : Nat) (M : StM) : Nat → Nat → Nat → Prop
  | 0, _, _ => True
  | m + 1, k, s => s < ty ∧ (∃ v, vb (T s) = some v ∧ ma M 7 (5 * k) = Int32.ofNat v ∧ ∀ j, j < cnt (kByt.getD (2 + v) []) → ma M 7 (5 * k + 1 + j) = (pc T ty s (fun _ => 0)).2.2 j) ∧ (pc T ty s (fun _ => 0)).1 = true ∧ HP T ty M m (k + 1) ((pc T ty s (fun _ => 0)).2.1 + 1)
theorem HP_cong {T : Nat → Int32} {ty : Nat} {M N : StM} : ∀ m k s, (∀ i, 5 * k ≤ i → ma N 7 i = ma M 7 i) → HP T ty M m k s → HP T ty N m k s := by
  intro m
  induction m with
  | zero => intro k s _ _; trivial
  | succ m ih =>
    intro k s h hp
    obtain ⟨h1, ⟨v, h2, h3, h4⟩, h5, h6⟩ := hp
    refine ⟨h1, ⟨v, h2, ?_, fun j hj => ?_⟩, h5, ih _ _ (fun i hi => h i (by omega)) h6⟩
    · rw [h _ (Nat.le_refl _)]
      exact h3
    · rw [h _ (by omega)]
      exact h4 j hj
def FA (c : Nat) (M M' : StM) : Prop := (∀ j, j ≠ 17 → j ≠ 18 → j ≠ 19 → mi M' j = mi M j) ∧ (∀ q k, q ≠ 7 → ma M' q k = ma M q k) ∧ (∀ k, k < 5 * c → ma M' 7 k = ma M 7 k)
theorem FA_r (c : Nat) (M : StM) : FA c M M := ⟨fun _ _ _ _ => rfl, fun _ _ _ => rfl, fun _ _ => rfl⟩
theorem FA_M {c : Nat} {M M' : StM} (h : FM c M M') : FA c M M' := ⟨h.1, h.2.1, fun k hk => h.2.2 k (Or.inl hk)⟩
theorem FA_t {c c' : Nat} {M M' M'' : StM} (h : FA c M M') (h' : FA c' M' M'') (hc : c ≤ c') : FA c M M'' := ⟨fun j h1 h2 h3 => (h'.1 j h1 h2 h3).trans (h.1 j h1 h2 h3), fun q k hq => (h'.2.1 q k hq).trans (h.2.1 q k hq), fun k hk => (h'.2.2 k (by omega)).trans (h.2.2 k hk)⟩
theorem FA_i (c : Nat) (M : StM) (j : Nat) (v : Int32) (hj : j = 17 ∨ j = 18 ∨ j = 19) : FA c M (smi M j v) := ⟨fun i h1 h2 h3 => by rw [mi_smi, if_neg (by omega)], fun _ _ _ => rfl, fun _ _ => rfl⟩
theorem L_stop {n : Nat} {M : StM} (hn : 0 < n) (h : ¬ mi M 18 = -1) : f_X7_readsAll_L32 n M = M ∧ ok_X7_readsAll_L32 n M := by
  obtain ⟨n, rfl⟩ : ∃ q, n = q + 1 := ⟨n - 1, by omega⟩
  refine ⟨?_, fun h9 => absurd h9 h, fun _ => trivial⟩
  rw [f_X7_readsAll_L32, if_neg h]
theorem L_all {T : Nat → Int32} {ty : Nat} : ∀ (g n c s : Nat) (M : StM), ty - s ≤ g → g + 1 < n → 5 * c ≤ s + 1 → RdM T ty M s → mi M 19 = Int32.ofNat c → ok_X7_readsAll_L32 n M ∧ FA c M (f_X7_readsAll_L32 n M) ∧ ((pgc T ty g c s).1 = true → mi (f_X7_readsAll_L32 n M) 18 = -1 ∧ mi (f_X7_readsAll_L32 n M) 19 = Int32.ofNat (pgc T ty g c s).2.1 ∧ c ≤ (pgc T ty g c s).2.1 ∧ 5 * (pgc T ty g c s).2.1 ≤ ty + 1 ∧ HP T ty (f_X7_readsAll_L32 n M) ((pgc T ty g c s).2.1 - c) c (s + 1)) ∧ ((pgc T ty g c s).1 = false → ∃ q, q ≤ 60 ∧ mi (f_X7_readsAll_L32 n M) 18 = Int32.ofNat q ∧ (pgc T ty g c s).2.2 = q) := by
  intro g
  induction g with
  | zero =>
    intro n c s M hg hn h5 h hc
    obtain ⟨n, rfl⟩ : ∃ q, n = q + 1 := ⟨n - 1, by omega⟩
    obtain ⟨a1, a2, a3, a4, a5, a6⟩ := h
    have hs : s = ty := by omega
    have w : mi M 16 ≤ mi M 17 := by
      rw [a3, a4]
      exact (le_ofN (by omega) (by omega)).mpr (by omega)
    have ef : f_X7_readsAll_L32 (n + 1) M = M := by rw [f_X7_readsAll_L32, if_pos a5, if_pos w]
    have ep : pgc T ty 0 c s = (true, c, s) := if_neg (by omega)
    rw [ef, ep]
    refine ⟨⟨fun _ => ⟨fun _ => trivial, fun h9 => absurd w h9⟩, fun h9 => absurd a5 h9⟩, FA_r c M, fun _ => ⟨a5, hc, Nat.le_refl c, ?_, ?_⟩, fun h9 => absurd (show (true : Bool) = false from h9) (by decide)⟩
    · show 5 * c ≤ ty + 1
      omega
    · show HP T ty M (c - c) c (s + 1)
      rw [Nat.sub_self]
      trivial
  | succ g ih =>
    intro n c s M hg hn h5 h hc
    obtain ⟨n, rfl⟩ : ∃ q, n = q + 1 := ⟨n - 1, by omega⟩
    obtain ⟨r0, r1, r2⟩ := rdM 59 59 (by decide) h
    have hh := h
    obtain ⟨a1, a2, a3, a4, a5, a6⟩ := h
    have w : (mi M 16 ≤ mi M 17) ↔ ty ≤ s := by
      rw [a3, a4]
      exact le_ofN (by omega) (by omega)
    have l59 : (59 : Int32).toInt = 59 := by decide
    rw [l59] at r1 r2
    by_cases hs : s < ty
    · have wn : ¬ mi M 16 ≤ mi M 17 := by rw [w]; omega
      by_cases h59 : T s = 59
      · have e1 := r1 ⟨hs, by rw [h59]; decide, by rw [h59]; decide⟩
        have hR := RdM_p hh (s' := s + 1) (by omega)
        have hc' : mi (smi M 17 (Int32.ofNat (s + 1))) 19 = Int32.ofNat c := by
          rw [mi_smi, if_neg (by decide)]
          exact hc
        obtain ⟨k1, k2, k3⟩ := rcM hR hc' (by omega)
        have ef : f_X7_readsAll_L32 (n + 1) M = f_X7_readsAll_L32 n (f_X7_readsCommand (smi M 17 (Int32.ofNat (s + 1)))) := by
          rw [f_X7_readsAll_L32, if_pos a5, if_neg wn, nm_eq, e1]
          show (if mi (smi M 17 (Int32.ofNat (s + 1))) 18 = -1 then _ else _) = _
          rw [if_pos hR.2.2.2.2.1, nm_eq]
        have eo : ok_X7_readsAll_L32 n (f_X7_readsCommand (smi M 17 (Int32.ofNat (s + 1)))) → ok_X7_readsAll_L32 (n + 1) M := by
          intro hk
          refine ⟨fun _ => ⟨fun h9 => absurd h9 wn, fun _ => ⟨r0, ?_⟩⟩, fun h9 => absurd a5 h9⟩
          intro z hz
          rw [hz, e1]
          refine ⟨fun _ => ⟨k1, ?_⟩, fun h9 => absurd hR.2.2.2.2.1 h9⟩
          intro z2 hz2
          rw [hz2]
          exact hk
        have ep : pgc T ty (g + 1) c s = if (pc T ty (s + 1) (fun _ => 0)).1 = true then pgc T ty g (c + 1) (pc T ty (s + 1) (fun _ => 0)).2.1 else (false, c, (pc T ty (s + 1) (fun _ => 0)).2.1) := by
          unfold pgc
          rw [if_pos hs, if_pos h59, pg_s]
          rfl
        have F1 : FA c M (f_X7_readsCommand (smi M 17 (Int32.ofNat (s + 1)))) := FA_t (FA_i c M 17 _ (Or.inl rfl)) (FA_M k2) (Nat.le_refl c)
        rw [ef]
        generalize f_X7_readsCommand (smi M 17 (Int32.ofNat (s + 1))) = N at k3 ef eo F1
        rcases k3 with ⟨v, s', vs', b1, b2, b3, b4, b5, b6, b7⟩ | ⟨q, b1, b2, b3, b4⟩
        · have hok : (pc T ty (s + 1) (fun _ => 0)).1 = true := by rw [b7]
          have hadv := pc_adv hok
          have hs' : (pc T ty (s + 1) (fun _ => 0)).2.1 = s' := by rw [b7]
          rw [hs'] at hadv
          rw [if_pos hok, hs'] at ep
          obtain ⟨i1, i2, i3, i4⟩ := ih n (c + 1) s' N (by have := b3.2.1; omega) (by omega) (by omega) b3 b4
          rw [ep]
          refine ⟨eo i1, FA_t F1 i2 (by omega), fun ht => ?_, i4⟩
          obtain ⟨j1, j2, j3, j4, j5⟩ := i3 ht
          refine ⟨j1, j2, by omega, j4, ?_⟩
          obtain ⟨m, hm⟩ : ∃ m, (pgc T ty g (c + 1) s').2.1 = c + 1 + m := ⟨(pgc T ty g (c + 1) s').2.1 - (c + 1), by omega⟩
          rw [hm] at j5 ⊢
          rw [show c + 1 + m - (c + 1) = m by omega] at j5
          rw [show c + 1 + m - c = m + 1 by omega]
          refine ⟨b1, ⟨v, b2, ?_, fun j hj => ?_⟩, hok, ?_⟩
          · rw [i2.2.2 _ (by omega)]
            exact b5
          · have hv6 := (vb_in b2).2
            have := cntv v hv6
            have hj4 : j < 4 := by
              rw [this] at hj
              split at hj
              · omega
              · split at hj <;> omega
            rw [i2.2.2 _ (by omega), b6 j hj, b7]
          · rw [hs']
            exact j5
        · rw [if_neg (by rw [b3]; decide)] at ep
          obtain ⟨t1, t2⟩ := L_stop (n := n) (M := N) (by omega) (by rw [b2]; exact ne1 (by omega))
          rw [t1, ep]
          exact ⟨eo t2, F1, fun h9 => absurd (show (false : Bool) = true from h9) (by decide), fun _ => ⟨q, b1, b2, b4⟩⟩
      · have e0 := r2 (fun hx => h59 (Int32.toInt_inj.mp (by rw [l59]; omega)))
        have hN : ¬ mi (smi M 18 (Int32.ofNat s)) 18 = -1 := by
          rw [mi_smi, if_pos rfl]
          exact ne1 (by omega)
        obtain ⟨t1, t2⟩ := L_stop (n := n) (M := smi M 18 (Int32.ofNat s)) (by omega) hN
        have ef : f_X7_readsAll_L32 (n + 1) M = smi M 18 (Int32.ofNat s) := by
          rw [f_X7_readsAll_L32, if_pos a5, if_neg wn, nm_eq, e0]
          show (if mi (smi M 18 (Int32.ofNat s)) 18 = -1 then _ else _) = _
          rw [if_neg hN, t1]
        have ep : pgc T ty (g + 1) c s = (false, c - 1, s) := by
          unfold pgc
          rw [if_pos hs, if_neg h59]
        rw [ef, ep]
        refine ⟨⟨fun _ => ⟨fun h9 => absurd h9 wn, fun _ => ⟨r0, ?_⟩⟩, fun h9 => absurd a5 h9⟩, FA_i c M 18 _ (Or.inr (Or.inl rfl)), fun h9 => absurd (show (false : Bool) = true from h9) (by decide), fun _ => ⟨s, by omega, by rw [mi_smi, if_pos rfl], rfl⟩⟩
        intro z hz
        rw [hz, e0]
        exact ⟨fun h9 => absurd h9 hN, fun _ => t2⟩
    · have wp := w.mpr (by omega)
      have ef : f_X7_readsAll_L32 (n + 1) M = M := by rw [f_X7_readsAll_L32, if_pos a5, if_pos wp]
      have ep : pgc T ty (g + 1) c s = (true, c, s) := if_neg hs
      rw [ef, ep]
      refine ⟨⟨fun _ => ⟨fun _ => trivial, fun h9 => absurd wp h9⟩, fun h9 => absurd a5 h9⟩, FA_r c M, fun _ => ⟨a5, hc, Nat.le_refl c, ?_, ?_⟩, fun h9 => absurd (show (true : Bool) = false from h9) (by decide)⟩
      · show 5 * c ≤ ty + 1
        omega
      · show HP T ty M (c - c) c (s + 1)
        rw [Nat.sub_self]
        trivial
/-- all of it -/
theorem allM {T : Nat → Int32} {ty : Nat} {M : StM} (hty : ty ≤ 60) (h12 : mi M 12 = Int32.ofNat ty) (h5 : ∀ k, k < ty → ma M 5 k = T k) : ok_X7_readsAll M ∧ (∀ j, j ≠ 12 → j ≠ 16 → j ≠ 17 → j ≠ 18 → j ≠ 19 → mi (f_X7_readsAll M) j = mi M j) ∧ mi (f_X7_readsAll M) 12 = 0 ∧ (∀ q k, q ≠ 7 → ma (f_X7_readsAll M) q k = ma M q k) ∧ ((pg T ty 61 0 0).1 = true → mi (f_X7_readsAll M) 18 = -1 ∧ mi (f_X7_readsAll M) 19 = Int32.ofNat (pg T ty 61 0 0).2.1 ∧ 1 ≤ (pg T ty 61 0 0).2.1 ∧ 5 * (pg T ty 61 0 0).2.1 ≤ ty + 1 ∧ HP T ty (f_X7_readsAll M) (pg T ty 61 0 0).2.1 0 0) ∧ ((pg T ty 61 0 0).1 = false → ∃ q, q ≤ 60 ∧ mi (f_X7_readsAll M) 18 = Int32.ofNat q ∧ (pg T ty 61 0 0).2.2 = q) := by
  have hfu : 60 + 1 < fu := by unfold fu; omega
  have hR : RdM T ty (smi (smi (smi (smi (smi M 16 (mi M 12)) 12 0) 17 0) 18 (-1)) 19 0) 0 := by
    refine ⟨hty, by omega, ?_, rfl, rfl, h5⟩
    show mi M 12 = _
    exact h12
  have hc : mi (smi (smi (smi (smi (smi M 16 (mi M 12)) 12 0) 17 0) 18 (-1)) 19 0) 19 = Int32.ofNat 0 := rfl
  have eM : f_X7_readsAll M = f_X7_readsAll_L32 fu (f_X7_readsCommand (smi (smi (smi (smi (smi M 16 (mi M 12)) 12 0) 17 0) 18 (-1)) 19 0)) := by
    unfold f_X7_readsAll
    simp only [nm_eq]
  have f0 : (∀ j, j ≠ 12 → j ≠ 16 → j ≠ 17 → j ≠ 18 → j ≠ 19 → mi (smi (smi (smi (smi (smi M 16 (mi M 12)) 12 0) 17 0) 18 (-1)) 19 0) j = mi M j) ∧ mi (smi (smi (smi (smi (smi M 16 (mi M 12)) 12 0) 17 0) 18 (-1)) 19 0) 12 = 0 ∧ (∀ q k, ma (smi (smi (smi (smi (smi M 16 (mi M 12)) 12 0) 17 0) 18 (-1)) 19 0) q k = ma M q k) := by
    refine ⟨fun j h1 h2 h3 h4 h5 => ?_, rfl, fun _ _ => rfl⟩
    rw [mi_smi, if_neg h5, mi_smi, if_neg h4, mi_smi, if_neg h3, mi_smi, if_neg h1, mi_smi, if_neg h2]
  have eo : ok_X7_readsCommand (smi (smi (smi (smi (smi M 16 (mi M 12)) 12 0) 17 0) 18 (-1)) 19 0) → ok_X7_readsAll_L32 fu (f_X7_readsCommand (smi (smi (smi (smi (smi M 16 (mi M 12)) 12 0) 17 0) 18 (-1)) 19 0)) → ok_X7_readsAll M := by
    intro o1 o2 M1 e1 M2 e2 M3 e3 M4 e4 M5 e5
    rw [e5, e4, e3, e2, e1]
    refine ⟨o1, fun M7 e7 => ?_⟩
    rw [e7]
    exact o2
  rw [eM]
  generalize smi (smi (smi (smi (smi M 16 (mi M 12)) 12 0) 17 0) 18 (-1)) 19 0 = N at hR hc f0 eo
  obtain ⟨k1, k2, k3⟩ := rcM hR hc (by omega)
  have eg : pg T ty 61 0 0 = if (pc T ty 0 (fun _ => 0)).1 = true then pgc T ty 60 (0 + 1) (pc T ty 0 (fun _ => 0)).2.1 else (false, 0, (pc T ty 0 (fun _ => 0)).2.1) := pg_s T ty 60 0 0
  generalize f_X7_readsCommand N = N1 at k2 k3 eo
  have F1 := FA_M k2
  have frames : ∀ N2, FA 0 N N2 → (∀ j, j ≠ 12 → j ≠ 16 → j ≠ 17 → j ≠ 18 → j ≠ 19 → mi N2 j = mi M j) ∧ mi N2 12 = 0 ∧ (∀ q k, q ≠ 7 → ma N2 q k = ma M q k) := by
    intro N2 hF
    refine ⟨fun j h1 h2 h3 h4 h5 => (hF.1 j h3 h4 h5).trans (f0.1 j h1 h2 h3 h4 h5), (hF.1 12 (by decide) (by decide) (by decide)).trans f0.2.1, fun q k hq => (hF.2.1 q k hq).trans (f0.2.2 q k)⟩
  rcases k3 with ⟨v, s', vs', b1, b2, b3, b4, b5, b6, b7⟩ | ⟨q, b1, b2, b3, b4⟩
  · have hok : (pc T ty 0 (fun _ => 0)).1 = true := by rw [b7]
    have hadv := pc_adv hok
    have hs' : (pc T ty 0 (fun _ => 0)).2.1 = s' := by rw [b7]
    rw [hs'] at hadv
    rw [if_pos hok, hs'] at eg
    obtain ⟨i1, i2, i3, i4⟩ := L_all 60 fu (0 + 1) s' N1 (by omega) hfu (by omega) b3 b4
    clear hfu
    rw [eg]
    obtain ⟨g1, g2, g3⟩ := frames _ (FA_t F1 i2 (by omega))
    refine ⟨eo k1 i1, g1, g2, g3, fun ht => ?_, i4⟩
    obtain ⟨j1, j2, j3, j4, j5⟩ := i3 ht
    refine ⟨j1, j2, j3, j4, ?_⟩
    obtain ⟨m, hm⟩ : ∃ m, (pgc T ty 60 (0 + 1) s').2.1 = m + 1 := ⟨(pgc T ty 60 (0 + 1) s').2.1 - 1, by omega⟩
    rw [hm] at j5 ⊢
    rw [show m + 1 - (0 + 1) = m by omega] at j5
    refine ⟨b1, ⟨v, b2, ?_, fun j hj => ?_⟩, hok, ?_⟩
    · rw [i2.2.2 _ (by omega)]
      exact b5
    · have hv6 := (vb_in b2).2
      have := cntv v hv6
      have hj4 : j < 4 := by
        rw [this] at hj
        split at hj
        · omega
        · split at hj <;> omega
      rw [i2.2.2 _ (by omega), b6 j hj, b7]
    · rw [hs']
      exact j5
  · rw [if_neg (by rw [b3]; decide)] at eg
    obtain ⟨t1, t2⟩ := L_stop (n := fu) (M := N1) (by omega) (by rw [b2]; exact ne1 (by omega))
    clear hfu
    rw [t1, eg]
    obtain ⟨g1, g2, g3⟩ := frames _ F1
    exact ⟨eo k1 t2, g1, g2, g3, fun h9 => absurd (show (false : Bool) = true from h9) (by decide), fun _ => ⟨q, b1, b2, b4⟩⟩
