/-! the pure part: a command, a program, read by the class -/
def vb (c : Int32) : Option Nat := if c = 112 then some 0 else if c = 100 then some 1 else if c = 108 then some 2 else if c = 115 then some 3 else if c = 118 then some 4 else if c = 119 then some 5 else none
theorem vb_lt {c : Int32} {v : Nat} (h : vb c = some v) : v < 6 := by
  unfold vb at h
  repeat (first | (split at h; · cases h; decide) | cases h)
def pc (T : Nat → Int32) (ty s : Nat) (vs : Nat → Int32) : Bool × Nat × (Nat → Int32) := if s < ty then (match vb (T s) with | some v => rf T ty (kByt.getD (2 + v) []) s 0 vs | none => (false, s, vs)) else (false, s, vs)
theorem pc_le (T : Nat → Int32) (ty s : Nat) (vs : Nat → Int32) (h : s ≤ ty) : s ≤ (pc T ty s vs).2.1 ∧ (pc T ty s vs).2.1 ≤ ty := by
  unfold pc
  split
  · split
    · exact rf_le T ty _ s 0 vs h
    · exact ⟨Nat.le_refl s, h⟩
  · exact ⟨Nat.le_refl s, h⟩
theorem rf_ind (T : Nat → Int32) (ty : Nat) : ∀ cs s f vs ws, (rf T ty cs s f vs).1 = (rf T ty cs s f ws).1 ∧ (rf T ty cs s f vs).2.1 = (rf T ty cs s f ws).2.1 ∧ ((rf T ty cs s f vs).1 = true → ∀ j, (j < f → vs j = ws j) → j < f + cnt cs → (rf T ty cs s f vs).2.2 j = (rf T ty cs s f ws).2.2 j) := by
  intro cs
  induction cs with
  | nil =>
    intro s f vs ws
    refine ⟨rfl, rfl, fun _ j h1 h2 => h1 (by simpa only [cnt, Nat.add_zero] using h2)⟩
  | cons c cs ih =>
    intro s f vs ws
    have hcnt : cnt (c :: cs) = (if c = 68 ∨ c = 78 then 1 else 0) + cnt cs := rfl
    unfold rf
    by_cases hdn : c = 68 ∨ c = 78
    · rw [if_pos hdn, if_pos hdn]
      rw [if_pos hdn] at hcnt
      by_cases hneg : (dn T ty c s).1 < 0
      · rw [if_pos hneg, if_pos hneg]
        exact ⟨rfl, rfl, fun h => absurd (show (false : Bool) = true from h) (by decide)⟩
      · rw [if_neg hneg, if_neg hneg]
        obtain ⟨r1, r2, r3⟩ := ih (dn T ty c s).2 (f + 1) (ur vs f (dn T ty c s).1) (ur ws f (dn T ty c s).1)
        refine ⟨r1, r2, fun h j h1 h2 => r3 h j (fun h3 => ?_) (by omega)⟩
        rw [ur_ap, ur_ap]
        by_cases hj : j = f
        · rw [if_pos hj, if_pos hj]
        · rw [if_neg hj, if_neg hj]
          exact h1 (by omega)
    · rw [if_neg hdn, if_neg hdn]
      rw [if_neg hdn] at hcnt
      split
      · obtain ⟨r1, r2, r3⟩ := ih (s + 1) f vs ws
        exact ⟨r1, r2, fun h j h1 h2 => r3 h j h1 (by omega)⟩
      · exact ⟨rfl, rfl, fun h => absurd (show (false : Bool) = true from h) (by decide)⟩
theorem pc_ind (T : Nat → Int32) (ty s : Nat) (vs ws : Nat → Int32) : (pc T ty s vs).1 = (pc T ty s ws).1 ∧ (pc T ty s vs).2.1 = (pc T ty s ws).2.1 ∧ ((pc T ty s vs).1 = true → ∀ v, vb (T s) = some v → ∀ j, j < cnt (kByt.getD (2 + v) []) → (pc T ty s vs).2.2 j = (pc T ty s ws).2.2 j) := by
  unfold pc
  split
  · split
    · rename_i v hv
      obtain ⟨r1, r2, r3⟩ := rf_ind T ty (kByt.getD (2 + v) []) s 0 vs ws
      refine ⟨r1, r2, fun h v' hv' j hj => ?_⟩
      have : v' = v := by
        rw [hv] at hv'
        exact (Option.some.inj hv').symm
      subst this
      exact r3 h j (fun h => absurd h (Nat.not_lt_zero j)) (by omega)
    · exact ⟨rfl, rfl, fun h => absurd (show (false : Bool) = true from h) (by decide)⟩
  · exact ⟨rfl, rfl, fun h => absurd (show (false : Bool) = true from h) (by decide)⟩
theorem pc_ok {T : Nat → Int32} {ty s : Nat} {vs : Nat → Int32} (h : (pc T ty s vs).1 = true) : s < ty ∧ ∃ v, vb (T s) = some v := by
  unfold pc at h
  by_cases hs : s < ty
  · rw [if_pos hs] at h
    refine ⟨hs, ?_⟩
    cases hv : vb (T s) with
    | none =>
      rw [hv] at h
      exact absurd (show (false : Bool) = true from h) (by decide)
    | some v => exact ⟨v, rfl⟩
  · rw [if_neg hs] at h
    exact absurd (show (false : Bool) = true from h) (by decide)
theorem idx_C : ∀ c, c < 127 → f_J0_indexOf_0f7a4 1 (Int32.ofNat c) = (match vb (Int32.ofNat c) with | some v => Int32.ofNat v | none => -1) := by decide +kernel
theorem ok_idx (x : Int32) : ok_J0_indexOf_0f7a4 1 x := by
  have L : ∀ (y : Int32) n i, i ≤ 6 → 6 < n + i → ok_J1_indexOfChar_4cfef_L7 n 1 (Int32.ofNat 6) y (Int32.ofNat i) := by
    intro y n
    induction n with
    | zero => intro i h1 h2; omega
    | succ n ih =>
      intro i h1 h2
      refine ⟨fun _ => trivial, fun h => ⟨?_, fun _ => trivial, fun _ => ?_⟩⟩
      · rw [le_ofN (by omega) (by omega)] at h
        show vp_in (Int32.ofNat i) 6
        exact in_o (by omega) (by omega)
      · rw [le_ofN (by omega) (by omega)] at h
        rw [oad1]
        exact ih (i + 1) (by omega) (by omega)
  intro r hr
  refine ⟨by rw [hr]; exact (by decide : ¬ (1 : Int32) = 0), ?_⟩
  intro r3 hr3
  have h6 : r3 = Int32.ofNat 6 := by
    rw [hr3]
    exact (klen 1 (by decide)).1
  rw [h6]
  intro r1 hr1
  refine ⟨fun _ => trivial, fun _ => ?_⟩
  intro v3 hv3
  intro v4 hv4
  refine ⟨fun _ => ?_, fun _ => trivial⟩
  have e3 : v3 = Int32.ofNat 0 := by
    rw [hv3]
    decide
  have e4 : v4 = Int32.ofNat 6 := by
    rw [hv4]
    decide
  rw [e3, e4]
  intro v1 hv1
  have hfu : 6 < fu + 0 := by unfold fu; omega
  exact L v1 fu 0 (by omega) hfu
theorem cnt4 : ∀ v, v < 6 → cnt (kByt.getD (2 + v) []) ≤ 4 ∧ kLen.getD (2 + v) 0 ≠ 0 ∧ f_X4_formOf (Int32.ofNat v) = 2 + v ∧ (kByt.getD (2 + v) []).length ≤ 30 := by decide +kernel
theorem rcC {T : Nat → Int32} {ty s : Nat} {B : StB} (h : RdB T ty B s) (hT : ∀ k, k < ty → 32 ≤ (T k).toInt ∧ (T k).toInt ≤ 126) : ok_X4_readCommand B ∧ (f_X4_readCommand B).1 = (if (pc T ty s (ba B 181)).1 = true then 1 else 0) ∧ RdB T ty (f_X4_readCommand B).2 (pc T ty s (ba B 181)).2.1 ∧ (∀ j, ba (f_X4_readCommand B).2 181 j = (pc T ty s (ba B 181)).2.2 j) ∧ Fg 179 182 B (f_X4_readCommand B).2 ∧ (∀ v, s < ty → vb (T s) = some v → bi (f_X4_readCommand B).2 179 3 = Int32.ofNat v) ∧ (∀ j, ba (f_X4_readCommand B).2 180 j = ba B 180 j) := by
  have h' := h
  obtain ⟨a1, a2, a3, a4, a5⟩ := h
  have hx : ix (Int32.ofNat s) = s := ix_o (by omega)
  have w : (bi B 179 1 ≤ bi B 179 2) ↔ ty ≤ s := by
    rw [a3, a4]
    exact le_ofN (by omega) (by omega)
  have z0 : Int32.ofNat 0 = 0 := rfl
  have hfu : 31 < fu := by unfold fu; omega
  have m1 : f_X4_readCommand_J30 B (-1) = (0, sbi B 179 3 (-1)) ∧ ok_X4_readCommand_J30 B (-1) := by
    have e8 : f_X4_formOf (bi (sbi B 179 3 (-1)) 179 3) = 8 := by
      rw [bi_sbi, if_pos ⟨rfl, rfl⟩]
      decide
    have l8 : f_J0_length_8abf5 8 = 0 := by decide +kernel
    have le8 : f_J0_isEmpty_aae02 8 = 1 := by decide +kernel
    obtain ⟨q, hq⟩ : ∃ q, fu = q + 1 := ⟨3999, rfl⟩
    refine ⟨?_, ?_⟩
    · unfold f_X4_readCommand_J30
      rw [nm_eq, nm_eq, e8, hq, f_X4_readCommand_L45, nm_eq, l8, if_pos (by decide), nm_eq, le8, if_neg (by decide)]
    · intro z hz
      rw [hz]
      intro k hk
      rw [hk, e8, hq]
      intro r hr
      rw [hr, l8]
      exact ⟨fun _ => trivial, fun h9 => absurd (by decide) h9⟩
  have bad : f_X4_readCommand B = f_X4_readCommand_J30 B (-1) → ok_X4_readCommand B → pc T ty s (ba B 181) = (false, s, ba B 181) → (∀ v, s < ty → vb (T s) ≠ some v) → ok_X4_readCommand B ∧ (f_X4_readCommand B).1 = (if (pc T ty s (ba B 181)).1 = true then 1 else 0) ∧ RdB T ty (f_X4_readCommand B).2 (pc T ty s (ba B 181)).2.1 ∧ (∀ j, ba (f_X4_readCommand B).2 181 j = (pc T ty s (ba B 181)).2.2 j) ∧ Fg 179 182 B (f_X4_readCommand B).2 ∧ (∀ v, s < ty → vb (T s) = some v → bi (f_X4_readCommand B).2 179 3 = Int32.ofNat v) ∧ (∀ j, ba (f_X4_readCommand B).2 180 j = ba B 180 j) := by
    intro e1 e2 e3 e4
    rw [e1, m1.1, e3]
    refine ⟨e2, rfl, ⟨a1, a2, ?_, ?_, fun k hk => a5 k hk⟩, fun _ => rfl, Fg_i (Fg_r _ _ B) _ _ (by omega) (by omega), fun v hv hv2 => absurd hv2 (e4 v hv), fun _ => rfl⟩
    · show bi (sbi B 179 3 (-1)) 179 1 = _
      rw [bi_sbi, if_neg (by omega)]
      exact a3
    · show bi (sbi B 179 3 (-1)) 179 2 = _
      rw [bi_sbi, if_neg (by omega)]
      exact a4
  by_cases hs : ty ≤ s
  · refine bad ?_ ?_ ?_ (fun v hv => by omega)
    · unfold f_X4_readCommand
      rw [if_pos (w.mpr hs)]
    · exact ⟨fun _ => m1.2, fun h9 => absurd (w.mpr hs) h9⟩
    · unfold pc
      rw [if_neg (by omega)]
  · have hs' : s < ty := by omega
    have hw := mt w.mp hs
    have hv : vp_in (bi B 179 2) 60 := by
      rw [a4]
      exact in_o (by omega) (by omega)
    have ht := hT s hs'
    obtain ⟨c, hc, ec⟩ := of_rng (x := T s) (n := 127) (by omega) (by omega)
    have ei : f_J0_indexOf_0f7a4 1 (ba B 180 (ix (bi B 179 2))) = (match vb (T s) with | some v => Int32.ofNat v | none => -1) := by
      rw [a4, hx, a5 s hs', ec]
      exact idx_C c hc
    have oki : (∀ r43 : Int32, r43 = (f_J0_indexOf_0f7a4 1 (ba B 180 (ix (bi B 179 2)))) → (ok_X4_readCommand_J30 B r43)) → ok_X4_readCommand B := fun hh => ⟨fun h9 => absurd h9 hw, fun _ => ⟨hv, ok_idx _, hh⟩⟩
    have hcase : vb (T s) = none ∨ ∃ v, vb (T s) = some v := by
      cases vb (T s) with
      | none => exact Or.inl rfl
      | some v => exact Or.inr ⟨v, rfl⟩
    rcases hcase with hvb | ⟨v, hvb⟩
    · rw [hvb] at ei
      refine bad ?_ (oki ?_) ?_ (fun v hv h => by rw [hvb] at h; cases h)
      · unfold f_X4_readCommand
        rw [if_neg hw, nm_eq, ei]
      · intro r hr
        rw [hr, ei]
        exact m1.2
      · unfold pc
        rw [if_pos hs', hvb]
    · rw [hvb] at ei
      have hv6 := vb_lt hvb
      obtain ⟨c4, cne, cf, cl⟩ := cnt4 v hv6
      have hB2 : RdB T ty (sbi B 179 3 (Int32.ofNat v)) s := by
        refine ⟨a1, a2, ?_, ?_, fun k hk => a5 k hk⟩
        · rw [bi_sbi, if_neg (by omega)]
          exact a3
        · rw [bi_sbi, if_neg (by omega)]
          exact a4
      have ef : f_X4_formOf (bi (sbi B 179 3 (Int32.ofNat v)) 179 3) = 2 + v := by
        rw [bi_sbi, if_pos ⟨rfl, rfl⟩]
        exact cf
      obtain ⟨r1, r2, r3, r4, r5, r6, r7⟩ := L_form (k := 2 + v) (by omega) cne (kByt.getD (2 + v) []) fu 0 0 s (sbi B 179 3 (Int32.ofNat v)) (by omega) rfl (by omega) (by omega) hB2
      rw [z0] at r1 r2 r3 r4 r5 r6 r7
      have eC : f_X4_readCommand B = f_X4_readCommand_L45 fu (2 + v) (sbi B 179 3 (Int32.ofNat v)) 0 0 := by
        unfold f_X4_readCommand
        rw [if_neg hw, nm_eq, ei]
        unfold f_X4_readCommand_J30
        rw [nm_eq, nm_eq, ef]
      have epc : pc T ty s (ba B 181) = rf T ty (kByt.getD (2 + v) []) s 0 (ba (sbi B 179 3 (Int32.ofNat v)) 181) := by
        unfold pc
        rw [if_pos hs', hvb]
        rfl
      rw [eC, epc]
      refine ⟨oki ?_, r2, r3, r4, Fg_t (Fg_i (Fg_r _ _ B) _ _ (by omega) (by omega)) r5, fun v' _ hv' => ?_, fun j => r7 j⟩
      · intro r hr
        rw [hr, ei]
        intro z hz
        rw [hz]
        intro k hk
        rw [hk, ef]
        exact r1
      · have : v = v' := Option.some.inj (hvb.symm.trans hv')
        rw [r6, bi_sbi, if_pos ⟨rfl, rfl⟩, this]
/-- a program: whether it is right, how many commands, where it ends -/
def pg (T : Nat → Int32) (ty : Nat) : Nat → Nat → Nat → Bool × Nat × Nat
  | 0, c, s => (false, c, s)
  | n + 1, c, s => if (pc T ty s (fun _ => 0)).1 = true then (if (pc T ty s (fun _ => 0)).2.1 < ty then (if T (pc T ty s (fun _ => 0)).2.1 = 59 then pg T ty n (c + 1) ((pc T ty s (fun _ => 0)).2.1 + 1) else (false, c, (pc T ty s (fun _ => 0)).2.1)) else (true, c + 1, (pc T ty s (fun _ => 0)).2.1)) else (false, c, (pc T ty s (fun _ => 0)).2.1)
theorem cntC {T : Nat → Int32} {ty : Nat} (hT : ∀ k, k < ty → 32 ≤ (T k).toInt ∧ (T k).toInt ≤ 126) : ∀ (g n c s : Nat) (B : StB), ty - s ≤ g → g < n → c ≤ s → RdB T ty B s → ok_X4_countCommands_L7 n B (Int32.ofNat c) ∧ (f_X4_countCommands_L7 n B (Int32.ofNat c)).1 = (if (pg T ty (g + 1) c s).1 = true then Int32.ofNat (pg T ty (g + 1) c s).2.1 else -1) ∧ RdB T ty (f_X4_countCommands_L7 n B (Int32.ofNat c)).2 (pg T ty (g + 1) c s).2.2 ∧ Fg 179 182 B (f_X4_countCommands_L7 n B (Int32.ofNat c)).2 ∧ c ≤ (pg T ty (g + 1) c s).2.1 ∧ (pg T ty (g + 1) c s).2.1 ≤ 61 := by
  intro g
  induction g with
  | zero =>
    intro n c s B hg hn hc h
    obtain ⟨n, rfl⟩ : ∃ q, n = q + 1 := ⟨n - 1, by omega⟩
    have hs := h.2.1
    have ht := h.1
    have hst : s = ty := by omega
    have w60 : ¬ (60 : Int32) < Int32.ofNat c := by
      rw [show (60 : Int32) = Int32.ofNat 60 from rfl, lt_ofN (by omega) (by omega)]
      omega
    obtain ⟨r1, r2, r3, r4, r5, r6, r7⟩ := rcC h hT
    have ep : ∀ vs, pc T ty s vs = (false, s, vs) := by
      intro vs
      unfold pc
      rw [if_neg (by omega)]
    have e1 : (f_X4_readCommand B).1 = 0 := by
      rw [r2, ep]
      rfl
    have epg : pg T ty (0 + 1) c s = (false, c, s) := by
      unfold pg
      rw [ep]
      rfl
    have ef : f_X4_countCommands_L7 (n + 1) B (Int32.ofNat c) = (-1, (f_X4_readCommand B).2) := by
      rw [f_X4_countCommands_L7, if_neg w60, nm_eq, if_pos e1]
    rw [ef, epg]
    rw [ep] at r3
    refine ⟨⟨fun _ => trivial, fun _ => ⟨r1, ?_⟩⟩, rfl, r3, r5, Nat.le_refl c, by show c ≤ 61; omega⟩
    intro z hz
    rw [hz]
    exact ⟨fun _ => trivial, fun h9 => absurd e1 h9⟩
  | succ g ih =>
    intro n c s B hg hn hc h
    obtain ⟨n, rfl⟩ : ∃ q, n = q + 1 := ⟨n - 1, by omega⟩
    have hs := h.2.1
    have ht := h.1
    have w60 : ¬ (60 : Int32) < Int32.ofNat c := by
      rw [show (60 : Int32) = Int32.ofNat 60 from rfl, lt_ofN (by omega) (by omega)]
      omega
    obtain ⟨r1, r2, r3, r4, r5, r6, r7⟩ := rcC h hT
    obtain ⟨i1, i2, i3⟩ := pc_ind T ty s (ba B 181) (fun _ => 0)
    have pl := pc_le T ty s (fun _ => 0) hs
    rw [i1] at r2
    rw [i2] at r3
    by_cases hok : (pc T ty s (fun _ => 0)).1 = true
    · rw [if_pos hok] at r2
      have h1 : ¬ (f_X4_readCommand B).1 = 0 := by
        rw [r2]
        decide
      obtain ⟨q1, q2, q3, q4, q5⟩ := r3
      have wlt : (bi (f_X4_readCommand B).2 179 2 < bi (f_X4_readCommand B).2 179 1) ↔ (pc T ty s (fun _ => 0)).2.1 < ty := by
        rw [q3, q4]
        exact lt_ofN (by omega) (by omega)
      by_cases hlt : (pc T ty s (fun _ => 0)).2.1 < ty
      · obtain ⟨so, s1, s0⟩ := sgnC 59 ⟨q1, q2, q3, q4, q5⟩
        by_cases hsemi : T (pc T ty s (fun _ => 0)).2.1 = 59
        · have eS := s1 ⟨hlt, hsemi⟩
          have hR := RdB_p (s' := (pc T ty s (fun _ => 0)).2.1 + 1) ⟨q1, q2, q3, q4, q5⟩ (by omega)
          obtain ⟨z1, z2, z3, z4, z5, z6⟩ := ih n (c + 1) ((pc T ty s (fun _ => 0)).2.1 + 1) (sbi (f_X4_readCommand B).2 179 2 (Int32.ofNat ((pc T ty s (fun _ => 0)).2.1 + 1))) (by have := (pc_ok hok).1; omega) (by omega) (by omega) hR
          have epg : pg T ty (g + 1 + 1) c s = pg T ty (g + 1) (c + 1) ((pc T ty s (fun _ => 0)).2.1 + 1) := by
            rw [pg, if_pos hok, if_pos hlt, if_pos hsemi]
          have ef : f_X4_countCommands_L7 (n + 1) B (Int32.ofNat c) = f_X4_countCommands_L7 n (sbi (f_X4_readCommand B).2 179 2 (Int32.ofNat ((pc T ty s (fun _ => 0)).2.1 + 1))) (Int32.ofNat (c + 1)) := by
            rw [f_X4_countCommands_L7, if_neg w60, nm_eq, if_neg h1, if_pos (wlt.mpr hlt), nm_eq, eS]
            show (if (1 : Int32) = 0 then _ else _) = _
            rw [if_neg (by decide), oad1]
          rw [ef, epg]
          refine ⟨⟨fun h9 => absurd h9 w60, fun _ => ⟨r1, ?_⟩⟩, z2, z3, Fg_t r5 (Fg_t (Fg_i (Fg_r _ _ _) _ _ (by omega) (by omega)) z4), by omega, z6⟩
          intro z hz
          rw [hz]
          refine ⟨fun h9 => absurd h9 h1, fun _ => ⟨fun _ => ⟨so, ?_⟩, fun h9 => absurd (wlt.mpr hlt) h9⟩⟩
          intro y hy
          rw [hy, eS, oad1]
          exact ⟨fun h9 => absurd (show (1 : Int32) = 0 from h9) (by decide), fun _ => z1⟩
        · have eS := s0 (fun hh => hsemi hh.2)
          have epg : pg T ty (g + 1 + 1) c s = (false, c, (pc T ty s (fun _ => 0)).2.1) := by
            rw [pg, if_pos hok, if_pos hlt, if_neg hsemi]
          have ef : f_X4_countCommands_L7 (n + 1) B (Int32.ofNat c) = (-1, (f_X4_readCommand B).2) := by
            rw [f_X4_countCommands_L7, if_neg w60, nm_eq, if_neg h1, if_pos (wlt.mpr hlt), nm_eq, eS]
            rfl
          rw [ef, epg]
          refine ⟨⟨fun h9 => absurd h9 w60, fun _ => ⟨r1, ?_⟩⟩, rfl, ⟨q1, q2, q3, q4, q5⟩, r5, Nat.le_refl c, by show c ≤ 61; omega⟩
          intro z hz
          rw [hz]
          refine ⟨fun h9 => absurd h9 h1, fun _ => ⟨fun _ => ⟨so, ?_⟩, fun h9 => absurd (wlt.mpr hlt) h9⟩⟩
          intro y hy
          rw [hy, eS]
          exact ⟨fun _ => trivial, fun h9 => absurd rfl h9⟩
      · have epg : pg T ty (g + 1 + 1) c s = (true, c + 1, (pc T ty s (fun _ => 0)).2.1) := by
          rw [pg, if_pos hok, if_neg hlt]
        have ef : f_X4_countCommands_L7 (n + 1) B (Int32.ofNat c) = (Int32.ofNat (c + 1), (f_X4_readCommand B).2) := by
          rw [f_X4_countCommands_L7, if_neg w60, nm_eq, if_neg h1, if_neg (mt wlt.mp hlt), oad1]
        rw [ef, epg]
        refine ⟨⟨fun h9 => absurd h9 w60, fun _ => ⟨r1, ?_⟩⟩, rfl, ⟨q1, q2, q3, q4, q5⟩, r5, by show c ≤ c + 1; omega, by show c + 1 ≤ 61; omega⟩
        intro z hz
        rw [hz]
        exact ⟨fun h9 => absurd h9 h1, fun _ => ⟨fun h9 => absurd h9 (mt wlt.mp hlt), fun _ => trivial⟩⟩
    · rw [if_neg hok] at r2
      have epg : pg T ty (g + 1 + 1) c s = (false, c, (pc T ty s (fun _ => 0)).2.1) := by
        rw [pg, if_neg hok]
      have ef : f_X4_countCommands_L7 (n + 1) B (Int32.ofNat c) = (-1, (f_X4_readCommand B).2) := by
        rw [f_X4_countCommands_L7, if_neg w60, nm_eq, if_pos r2]
      rw [ef, epg]
      refine ⟨⟨fun h9 => absurd h9 w60, fun _ => ⟨r1, ?_⟩⟩, rfl, r3, r5, Nat.le_refl c, by show c ≤ 61; omega⟩
      intro z hz
      rw [hz]
      exact ⟨fun _ => trivial, fun h9 => absurd r2 h9⟩
