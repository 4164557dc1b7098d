/-! p51: the predictions are right -/
theorem gone_ask {e D n t : Nat} {B : StB} {R : Nat → Int32} (hT : Ti 0 n 0 0 t B 0 R) (hR : RB e D n t 0 0 R) (x : Int32) : ok_L_ask B 11 x 0 ∧ ((∃ w, Live t R x w) → ∃ v, f_L_ask B 11 x 0 = (v, B) ∧ v ≠ -20004) ∧ ((∀ w, ¬ Live t R x w) → f_L_ask B 11 x 0 = (-20004, B)) := by
  have hu := bT_uq hR.2.1
  have ht : t ≤ 10 := hR.2.1.1
  obtain ⟨o, q0, q1⟩ := reqT x hT hu
  have sf : ∀ z : Nat × Int32 × StB, f_X6_daysUntilDue B x = z → f_L_asked B 11 x 0 = (if z.1 = 0 then (0, z.2.1, z.2.2) else (z.1, 0, z.2.2)) := by
    intro z hz
    unfold f_L_asked
    rw [if_neg (by decide), if_neg (by decide), if_neg (by decide), if_neg (by decide), if_neg (by decide), if_neg (by decide), if_neg (by decide), if_neg (by decide), if_neg (by decide), if_neg (by decide), if_neg (by decide), nm_eq, hz]
  by_cases hex : ∃ m, m < t ∧ R (44 + 5 * m) = x
  · obtain ⟨m, hm, hx⟩ := hex
    have f := q1 m hm hx
    have hxx : ix (Int32.ofNat m) = m := ix_o (by omega)
    have hv : vp_in (Int32.ofNat m) 10 := in_o (by omega) (by omega)
    have ob : ok_X6_daysUntilDue B x := by
      refine ⟨o, ?_⟩
      intro z hz _
      rw [hz, f]
      exact hv
    have fb : f_X6_daysUntilDue B x = (0, R (48 + 5 * m) - R 0, B) := by
      unfold f_X6_daysUntilDue
      rw [nm_eq, f]
      show (if 0 = 0 then (0, ba B 11 (ix (Int32.ofNat m)) - bi B 0 3, B) else _) = _
      rw [if_pos rfl, hxx, show ba B 11 m = R (48 + 5 * m) from (Ti_q hT hm).2.2.2.2, show bi B 0 3 = R 0 from (Ti_s hT).1]
    have fa := sf _ fb
    have fa : f_L_asked B 11 x 0 = (0, R (48 + 5 * m) - R 0, B) := fa
    obtain ⟨-, -, -, -, d1, d2, -⟩ := hR.2.1.2.2.1 m hm
    have hS := hR.2.2
    unfold bS at hS
    have vd : (R (48 + 5 * m) - R 0).toInt = (R (48 + 5 * m)).toInt - (R 0).toInt := i32_sub (by omega) (by omega)
    refine ⟨⟨ask_11 ob, ?_⟩, fun _ => ⟨R (48 + 5 * m) - R 0, ?_, ?_⟩, fun h => absurd ⟨m, hm, hx, rfl⟩ (h (R (48 + 5 * m)))⟩
    · intro z hz
      rw [hz, fa]
      exact Or.inl rfl
    · unfold f_L_ask
      rw [nm_eq, fa]
      rfl
    · intro h
      rw [h, show (-20004 : Int32).toInt = -20004 from by decide] at vd
      omega
  · have f := q0 (fun j hj h => hex ⟨j, hj, h⟩)
    have ob : ok_X6_daysUntilDue B x := by
      refine ⟨o, ?_⟩
      intro z hz h0
      rw [hz, f] at h0
      exact absurd (show (5 : Nat) = 0 from h0) (by decide)
    have fb : f_X6_daysUntilDue B x = (5, 0, B) := by
      unfold f_X6_daysUntilDue
      rw [nm_eq, f]
      rfl
    have fa : f_L_asked B 11 x 0 = (5, 0, B) := sf _ fb
    refine ⟨⟨ask_11 ob, ?_⟩, fun ⟨w, m, m1, m2, _⟩ => absurd ⟨m, m1, m2⟩ hex, fun _ => ?_⟩
    · intro z hz
      rw [hz, fa]
      exact Or.inr (Or.inr (Or.inr rfl))
    · unfold f_L_ask
      rw [nm_eq, fa]
      rfl
theorem gone_L {n t d : Nat} {R : Nat → Int32} {B : StB} (ht : t ≤ 10) (hd : d ≤ 60) (hl : Tl n t B) (hb : ∀ j, j < t → Td d n t R B j) (hv : ∀ j, j < t → (R (48 + 5 * tsl t R j) - R 0).toInt = (R (48 + 5 * tsl t R j)).toInt - (R 0).toInt) (ha : ∀ j, j < t → ok_L_ask B 11 (R (44 + 5 * tsl t R j)) 0 ∧ (¬ (R (48 + 5 * tsl t R j)).toInt - (R 0).toInt < (d : Int) → ∃ v, f_L_ask B 11 (R (44 + 5 * tsl t R j)) 0 = (v, B) ∧ v ≠ -20004) ∧ ((R (48 + 5 * tsl t R j)).toInt - (R 0).toInt < (d : Int) → f_L_ask B 11 (R (44 + 5 * tsl t R j)) 0 = (-20004, B))) (a10 a11 : Int32) : ∀ (g nf k : Nat), k + g = t → g < nf → Gz (fun z => z = ((1 : Int32), Int32.ofNat (cT (mk d n t R B t)), Int32.ofNat (cF (mk d n t R B t)), B)) (ok_L_arePredictionsRight_L254 nf B (Int32.ofNat d) (Int32.ofNat t) 1 a10 a11 (Int32.ofNat (cT (mk d n t R B k))) (Int32.ofNat (cF (mk d n t R B k))) (Int32.ofNat k)) (f_L_arePredictionsRight_L254 nf B (Int32.ofNat d) (Int32.ofNat t) 1 a10 a11 (Int32.ofNat (cT (mk d n t R B k))) (Int32.ofNat (cF (mk d n t R B k))) (Int32.ofNat k)) := by
  intro g
  induction g with
  | zero =>
    intro nf k hk hnf
    obtain ⟨nf, rfl⟩ : ∃ q, nf = q + 1 := ⟨nf - 1, by omega⟩
    have c : Int32.ofNat t ≤ Int32.ofNat k := by
      rw [le_ofN (by omega) (by omega)]
      omega
    have hkt : k = t := by omega
    unfold f_L_arePredictionsRight_L254 ok_L_arePredictionsRight_L254
    refine G_pos c ⟨trivial, ?_⟩
    rw [hkt]
  | succ g ih =>
    intro nf k hk hnf
    obtain ⟨nf, rfl⟩ : ∃ q, nf = q + 1 := ⟨nf - 1, by omega⟩
    have c : ¬ Int32.ofNat t ≤ Int32.ofNat k := by
      rw [le_ofN (by omega) (by omega)]
      omega
    have hx : ix (Int32.ofNat k) = k := ix_o (by omega)
    have vk : vp_in (Int32.ofNat k) t := in_o (by omega) (by omega)
    have xt : ix (Int32.ofNat t) = t := ix_o (by omega)
    have v4 : vp_in (Int32.ofNat k) (ix (bi B 194 9)) := by rw [hl.2.1, xt]; exact vk
    have v5 : vp_in (Int32.ofNat k) (ix (bi B 195 9)) := by rw [hl.2.2.1, xt]; exact vk
    have v6 : vp_in (Int32.ofNat k) (ix (bi B 196 9)) := by rw [hl.2.2.2, xt]; exact vk
    obtain ⟨t1, t2, b, t3, t4⟩ := hb k (by omega)
    obtain ⟨a1, a2, a3⟩ := ha k (by omega)
    have hv := hv k (by omega)
    have r1 := ih nf (k + 1) (by omega) (by omega)
    rw [← oad1] at r1
    have hw : (Int32.ofNat d ≤ R (48 + 5 * tsl t R k) - R 0) ↔ ¬ (R (48 + 5 * tsl t R k)).toInt - (R 0).toInt < (d : Int) := by
      rw [i32_le, hv, ofN_toInt (by omega)]
      omega
    have z0 : ∀ x : Int32, x + 0 = x := Int32.add_zero
    unfold f_L_arePredictionsRight_L254 ok_L_arePredictionsRight_L254
    rw [hx, t2]
    by_cases cd : (R (48 + 5 * tsl t R k)).toInt - (R 0).toInt < (d : Int)
    · have a3 := a3 cd
      have w1 : ¬ Int32.ofNat d ≤ R (48 + 5 * tsl t R k) - R 0 := fun h => hw.mp h cd
      have em : mk d n t R B (k + 1) = (R (44 + 5 * tsl t R k), decide (ba B 196 k = 0)) :: mk d n t R B k := if_pos cd
      rw [em] at r1
      cases b with
      | true =>
        have c6 : ba B 196 k = 0 := t3
        rw [decide_eq_true c6, cT_t, cF_t, ← oad1] at r1
        refine ⟨⟨fun h => absurd h c, fun _ => ⟨v5, fun h => absurd h w1, fun _ => ⟨v6, fun _ => ?_, fun h => absurd c6 h⟩⟩⟩, ?_⟩
        · intro y hy
          rw [hy]
          refine ⟨v6, fun _ => ?_, fun h => absurd c6 h⟩
          intro y2 hy2
          rw [hy2, z0]
          refine ⟨fun h => absurd h (by decide), fun _ => ⟨v4, ?_⟩⟩
          rw [t1]
          refine ⟨a1, ?_⟩
          intro z hz
          rw [hz, a3]
          exact ⟨fun _ => r1.1, fun h => absurd rfl h⟩
        · show (if Int32.ofNat t ≤ Int32.ofNat k then _ else if Int32.ofNat d ≤ R (48 + 5 * tsl t R k) - R 0 then _ else if ba B 196 k = 0 then _ else _) = _
          rw [if_neg c, if_neg w1, if_pos c6, nm_eq, if_pos c6, nm_eq, if_neg (by decide), t1, nm_eq, a3, if_pos rfl, z0]
          exact r1.2
      | false =>
        have c6 : ¬ ba B 196 k = 0 := by
          rw [t3]
          decide
        rw [decide_eq_false c6, cT_f, cF_f, ← oad1] at r1
        refine ⟨⟨fun h => absurd h c, fun _ => ⟨v5, fun h => absurd h w1, fun _ => ⟨v6, fun h => absurd h c6, fun _ => ?_⟩⟩⟩, ?_⟩
        · intro y hy
          rw [hy, z0 (Int32.ofNat (cT (mk d n t R B k)))]
          refine ⟨v6, fun h => absurd h c6, fun _ => ?_⟩
          intro y2 hy2
          rw [hy2]
          refine ⟨fun h => absurd h (by decide), fun _ => ⟨v4, ?_⟩⟩
          rw [t1]
          refine ⟨a1, ?_⟩
          intro z hz
          rw [hz, a3]
          exact ⟨fun _ => r1.1, fun h => absurd rfl h⟩
        · show (if Int32.ofNat t ≤ Int32.ofNat k then _ else if Int32.ofNat d ≤ R (48 + 5 * tsl t R k) - R 0 then _ else if ba B 196 k = 0 then _ else _) = _
          rw [if_neg c, if_neg w1, if_neg c6, nm_eq, if_neg c6, nm_eq, if_neg (by decide), t1, nm_eq, a3, if_pos rfl, z0]
          exact r1.2
    · obtain ⟨v, a2, a4⟩ := a2 cd
      have w1 : Int32.ofNat d ≤ R (48 + 5 * tsl t R k) - R 0 := hw.mpr cd
      have em : mk d n t R B (k + 1) = mk d n t R B k := if_neg cd
      rw [em] at r1
      refine ⟨⟨fun h => absurd h c, fun _ => ⟨v5, fun _ => ?_, fun h => absurd w1 h⟩⟩, ?_⟩
      · intro y hy
        rw [hy, z0]
        intro y2 hy2
        rw [hy2, z0]
        refine ⟨fun h => absurd h (by decide), fun _ => ⟨v4, ?_⟩⟩
        rw [t1]
        refine ⟨a1, ?_⟩
        intro z hz
        rw [hz, a2]
        exact ⟨fun h => absurd h a4, fun _ => r1.1⟩
      · show (if Int32.ofNat t ≤ Int32.ofNat k then _ else if Int32.ofNat d ≤ R (48 + 5 * tsl t R k) - R 0 then _ else _) = _
        rw [if_neg c, if_pos w1, nm_eq, nm_eq, if_neg (by decide), t1, nm_eq, a2, if_neg a4, z0, z0]
        exact r1.2
/-! saving, the days, restoring -/
theorem save_C {e n t : Nat} {B : StB} {R : Nat → Int32} (h : SS e n t B R) : ok_X6_save B ∧ SS e n t (f_X6_save B).2 R ∧ Fg 32 177 B (f_X6_save B).2 ∧ Ti 0 n 0 0 t (f_X6_save B).2 32 R ∧ bi (f_X6_save B).2 176 7 = 1 := by
  obtain ⟨c1, c2, c3⟩ := copy_C h.1 h.2.1.1 (p := 32) (by omega)
  have ef : (f_X6_save B).2 = sbi (f_X3_copyFrom 32 0 B) 176 7 1 := rfl
  have g : Fg 176 177 (f_X3_copyFrom 32 0 B) (sbi (f_X3_copyFrom 32 0 B) 176 7 1) := Fg_i (Fg_r _ _ _) _ _ (by omega) (by omega)
  rw [ef]
  refine ⟨c1, SS_Fg (SS_Fg h (Fr_Fg c2) (by omega) (by omega)) g (by omega) (by omega), Fg_t (Fg_w (Fr_Fg c2) (by omega) (by omega)) (Fg_w g (by omega) (by omega)), Ti_Fg c3 g (by omega), ?_⟩
  rw [bi_sbi, if_pos ⟨rfl, rfl⟩]
theorem days_C {e n t d : Nat} {B : StB} {R : Nat → Int32} (h : SS e n t B R) (h3 : Ti 0 n 0 0 t B 32 R) (hd : 1 ≤ d) (hd2 : d ≤ 60) : ok_X6_endDays_n B (Int32.ofNat d) ∧ (f_X6_endDays_n B (Int32.ofNat d)).1 = Int32.ofNat (cT (run d n t R).1) ∧ Ti 0 n 0 0 (run d n t R).2.1 (f_X6_endDays_n B (Int32.ofNat d)).2 0 (run d n t R).2.2 ∧ RB e (60 * e + d) n (run d n t R).2.1 0 0 (run d n t R).2.2 ∧ Ti 0 n 0 0 t (f_X6_endDays_n B (Int32.ofNat d)).2 32 R ∧ bz (f_X6_endDays_n B (Int32.ofNat d)).2 = bz B ∧ (∃ hn, hn < 8 ∧ bi (f_X6_endDays_n B (Int32.ofNat d)).2 177 1 = Int32.ofNat hn) ∧ ∀ q k, (q = 176 ∨ 178 ≤ q) → bi (f_X6_endDays_n B (Int32.ofNat d)).2 q k = bi B q k ∧ ba (f_X6_endDays_n B (Int32.ofNat d)).2 q k = ba B q k := by
  obtain ⟨hT, hR, hX, hz, ⟨hl, hn, a1, a2, a3, a5⟩, -⟩ := h
  have he : e ≤ 600 := by
    have := hR.2.2
    unfold bS at this
    exact this.1
  have a0 : f_X3_endDaysFault 0 B (Int32.ofNat d) = 0 := by
    have : ∀ d, d < 61 → 1 ≤ d → f_X7_isIn (Int32.ofNat d) 1 60 = 1 := by decide +kernel
    simp only [f_X3_endDaysFault, nm_eq, isIn_6, this d (by omega) hd, i10, if_false]
  obtain ⟨c1, c2, c3, c4, c5, c6, c7, c8⟩ := rem_C ⟨n, t, hT, hR⟩ a1 a2 a3 a5
  obtain ⟨n', t', q1, q2⟩ := c4 32 R (by omega) (by omega) ⟨n, t, h3, hR⟩
  have hn' : n' = n := by
    have u1 := q2.1.2.1
    have u2 := hR.1.2.1
    have u3 := q2.1.1
    have u4 := hR.1.1
    exact (ofN_inj (by omega) (by omega)).mp (u1.symm.trans u2)
  have ht' : t' = t := by
    have u1 := q2.2.1.2.1
    have u2 := hR.2.1.2.1
    have u3 := q2.2.1.1
    have u4 := hR.2.1.1
    exact (ofN_inj (by omega) (by omega)).mp (u1.symm.trans u2)
  rw [hn', ht'] at q1
  obtain ⟨s1, s2, s3, s4, s5⟩ := S_days (e := e) (D := 60 * e) (d := d) (by omega) (by omega) (c3 n t hT) hR
  have ef : f_X6_endDays_n B (Int32.ofNat d) = ((f_X3_passDays 0 (f_X1_remember 0 B) (Int32.ofNat d)).1, (f_X3_passDays 0 (f_X1_remember 0 B) (Int32.ofNat d)).2) := rfl
  rw [ef]
  refine ⟨?_, s2, s3, s4, Ti_Fg q1 (Fr_Fg s5) (by omega), s5.1.trans c8, ⟨(hn + 1) % 8, Nat.mod_lt _ (by decide), (s5.2 177 1 (by omega)).1.trans c6⟩, fun q k hq => ⟨(s5.2 q k (by omega)).1.trans (c7 q k hq).1, (s5.2 q k (by omega)).2.2.trans (c7 q k hq).2.2⟩⟩
  intro r hr
  rw [hr, a0]
  refine ⟨raise_n0, c1, ?_⟩
  intro C hC
  rw [hC]
  exact s1
theorem rest_C {e n t : Nat} {B C : StB} {R : Nat → Int32} (h : SS e n t B R) (h3 : Ti 0 n 0 0 t C 32 R) (h7 : bi C 176 7 = 1) (hz : bz C = bz B) (hh : ∃ hn, hn < 8 ∧ bi C 177 1 = Int32.ofNat hn) (h9 : bi C 191 3 = bi B 191 3) : ok_X6_restore_n C ∧ SS e n t (f_X6_restore_n C).2 R := by
  obtain ⟨hT, hR, hX, hz0, -, sl, s1, s2⟩ := h
  obtain ⟨hn, a1, a2⟩ := hh
  obtain ⟨c1, c2, c3⟩ := copy_C h3 hR.1 (p := 0) (by omega)
  have w : ¬ (1 : Int32) = 0 := by decide
  have g : Fg 177 178 (f_X3_copyFrom 0 32 C) (sbi (f_X3_copyFrom 0 32 C) 177 0 0) := Fg_i (Fg_r _ _ _) _ _ (by omega) (by omega)
  have ef : (f_X6_restore_n C).2 = sbi (f_X3_copyFrom 0 32 C) 177 0 0 := by
    unfold f_X6_restore_n
    rw [h7, if_neg w]
    rfl
  rw [ef]
  refine ⟨⟨fun h => absurd (h7.symm.trans h) w, fun _ => c1⟩, Ti_Fg c3 g (by omega), hR, hX, g.1.trans (c2.1.trans (hz.trans hz0)), ⟨0, hn, by omega, a1, ?_, ?_⟩, sl, s1, ?_⟩
  · rw [bi_sbi, if_pos ⟨rfl, rfl⟩]
    rfl
  · rw [bi_sbi, if_neg (by omega), (c2.2 177 1 (by omega)).1]
    exact a2
  · rw [(g.2 191 3 (by omega)).1, (c2.2 191 3 (by omega)).1, h9]
    exact s2
theorem pred_J {e n t d : Nat} {B : StB} {R : Nat → Int32} (h : SS e n t B R) (hl : Tl n t B) (hd : 1 ≤ d) (hd2 : d ≤ 60) : Gz (fun z => z.1 = (1 : Int32) ∧ SS e n t z.2 R) (ok_L_arePredictionsRight_J93 B (Int32.ofNat d) (Int32.ofNat n) (Int32.ofNat t) 1) (f_L_arePredictionsRight_J93 B (Int32.ofNat d) (Int32.ofNat n) (Int32.ofNat t) 1) := by
  have hn : n ≤ 8 := h.2.1.1.1
  have ht : t ≤ 10 := h.2.1.2.1.1
  have hu := bT_uq h.2.1.2.1
  obtain ⟨a1, a2, a3, a4⟩ := told_L (e := e) (t := t) (d := d) (R := R) hd2 (Int32.ofNat t) 1 n 20 0 B (by omega) (by omega) h hl (fun j hj => by omega)
  have a1 : ok_L_arePredictionsRight_L98 20 B (Int32.ofNat d) (Int32.ofNat n) (Int32.ofNat t) 1 0 := a1
  generalize hC : f_L_arePredictionsRight_L98 20 B (Int32.ofNat d) (Int32.ofNat n) (Int32.ofNat t) 1 (Int32.ofNat 0) = C at a2 a3 a4
  have hC : f_L_arePredictionsRight_L98 20 B (Int32.ofNat d) (Int32.ofNat n) (Int32.ofNat t) 1 0 = C := hC
  obtain ⟨b1, b2, b3, b4, b5⟩ := told_T (e := e) (n := n) (d := d) (R := R) (Int32.ofNat d) (Int32.ofNat n) 1 t 20 0 C (by omega) (by omega) a2 a3 (fun j hj => by omega)
  have b1 : ok_L_arePredictionsRight_L125 20 C (Int32.ofNat d) (Int32.ofNat n) (Int32.ofNat t) 1 0 := b1
  generalize hD : f_L_arePredictionsRight_L125 20 C (Int32.ofNat d) (Int32.ofNat n) (Int32.ofNat t) 1 (Int32.ofNat 0) = D at b2 b3 b4 b5
  have hD : f_L_arePredictionsRight_L125 20 C (Int32.ofNat d) (Int32.ofNat n) (Int32.ofNat t) 1 0 = D := hD
  obtain ⟨c1, c2, c3, c4, c5⟩ := save_C b2
  generalize hE : f_X6_save D = E at c2 c3 c4 c5
  obtain ⟨d1, d2, d3, d4, d5, d6, d7, d8⟩ := days_C (d := d) c2 c4 hd hd2
  generalize hF : f_X6_endDays_n E.2 (Int32.ofNat d) = F at d2 d3 d5 d6 d7 d8
  -- the arrays at the end
  have e93 : ∀ j, ba F.2 193 j = ba C 193 j := fun j => ((d8 193 j (by omega)).2.trans (c3.2 193 j (by omega)).2.2).trans (b4 j)
  have eq : ∀ q j, 193 ≤ q → ba F.2 q j = ba D q j ∧ bi F.2 q j = bi D q j := fun q j hq => ⟨(d8 q j (by omega)).2.trans (c3.2 q j (by omega)).2.2, (d8 q j (by omega)).1.trans (c3.2 q j (by omega)).1⟩
  have lF : Tl n t F.2 := ⟨(eq 193 9 (by omega)).2.trans b3.1, (eq 194 9 (by omega)).2.trans b3.2.1, (eq 195 9 (by omega)).2.trans b3.2.2.1, (eq 196 9 (by omega)).2.trans b3.2.2.2⟩
  have tF : ∀ j, j < t → Td d n t R F.2 j := by
    intro j hj
    obtain ⟨t1, t2, b, t3, t4⟩ := b5 j hj
    exact ⟨(eq 194 j (by omega)).1.trans t1, (eq 195 j (by omega)).1.trans t2, b, (eq 196 j (by omega)).1.trans t3, t4⟩
  obtain ⟨s1, s2⟩ := same_L (t := (run d n t R).2.1) (d := d) d3 (fun j hj => by
    obtain ⟨d', rfl⟩ : ∃ d', d = d' + 1 := ⟨d - 1, by omega⟩
    exact run_0 hj d' t R) (fun j hj => d3.1.2.2.2.2.2.2 j hj) lF.1 (fun j hj => (e93 j).trans (a4 j hj)) (Int32.ofNat d) (Int32.ofNat t) (f_X6_bounceCount E.2) F.1 n 20 0 (by omega) (by omega)
  have s1 : ok_L_arePredictionsRight_L198 20 F.2 (Int32.ofNat d) (Int32.ofNat n) (Int32.ofNat t) 1 (f_X6_bounceCount E.2) F.1 0 := s1
  have s2 : f_L_arePredictionsRight_L198 20 F.2 (Int32.ofNat d) (Int32.ofNat n) (Int32.ofNat t) 1 (f_X6_bounceCount E.2) F.1 0 = 1 := s2
  have hS := h.2.1.2.2
  unfold bS at hS
  obtain ⟨p1, p2, p3, p4, p5, p6⟩ := P_run d (60 * e) t B R h.1 h.2.1 h.2.2.1 (by omega)
  obtain ⟨m1, m2⟩ := mk_out (B := F.2) h.1 h.2.1 h.2.2.1 hd2 tF
  obtain ⟨g1, g2⟩ := gone_L (n := n) ht hd2 lF tF (fun j hj => by
    obtain ⟨-, -, -, -, k5, k6, -⟩ := h.2.1.2.1.2.2.1 (tsl t R j) (ps_ok hj).1
    exact i32_sub (by omega) (by omega)) (fun j hj => by
    obtain ⟨x1, x2, x3⟩ := gone_ask d3 d4 (R (44 + 5 * tsl t R j))
    have hs : tsl t R j < t := (ps_ok hj).1
    refine ⟨x1, fun hc => x2 ⟨R (48 + 5 * tsl t R j), (p4 _ _).mpr ⟨⟨tsl t R j, hs, rfl, rfl⟩, by omega⟩⟩, fun hc => x3 (fun w hw => ?_)⟩
    obtain ⟨⟨i, i1, i2, i3⟩, i4⟩ := (p4 _ _).mp hw
    have := hu _ _ i1 hs i2
    rw [this] at i3
    rw [i3] at hc
    omega) (f_X6_bounceCount E.2) F.1 t 20 0 (by omega) (by omega)
  rw [m1, m2] at g2
  have g1 : ok_L_arePredictionsRight_L254 20 F.2 (Int32.ofNat d) (Int32.ofNat t) 1 (f_X6_bounceCount E.2) F.1 0 0 0 := g1
  have g2 : f_L_arePredictionsRight_L254 20 F.2 (Int32.ofNat d) (Int32.ofNat t) 1 (f_X6_bounceCount E.2) F.1 0 0 0 = (1, Int32.ofNat (cT (run d n t R).1), Int32.ofNat (cF (run d n t R).1), F.2) := g2
  have n1 : f_X6_bounceCount E.2 = R 10 := (Ti_s c2.1).2.2.1
  have n2 : f_X6_bounceCount F.2 = (run d n t R).2.2 10 := (Ti_s d3).2.2.1
  obtain ⟨r1, r2⟩ := rest_C c2 d5 ((d8 176 7 (by omega)).1.trans c5) d6 d7 (d8 191 3 (by omega)).1
  unfold f_L_arePredictionsRight_J93 ok_L_arePredictionsRight_J93
  refine G_ka a1 hC (G_ka b1 hD (G_ka c1 hE (G_nm fun r28 h28 => G_ka d1 hF ?_)))
  rw [h28]
  refine G_ka s1 s2 (G_ka g1 g2 (G_neg (show ¬ (1 : Int32) = 0 from by decide) (G_pos d2 (G_as rfl (G_pos ?_ ?_)))))
  · show f_X6_bounceCount F.2 = f_X6_bounceCount E.2 + Int32.ofNat (cF (run d n t R).1)
    rw [n1, n2, p3]
  · unfold f_L_arePredictionsRight_J397 ok_L_arePredictionsRight_J397
    exact G_ok r1 fun z hz => ⟨rfl, rfl, by rw [hz]; exact r2⟩
theorem ba_saf (B : StB) (p : Nat) (g : Nat → Int32) (q j : Nat) : ba (saf B p g) q j = if q = p then g j else ba B q j := by
  show (if q = p then g else B.2.2.1 q) j = _
  split <;> rfl
theorem pred_C {e n t d : Nat} {B : StB} {R : Nat → Int32} (h : SS e n t B R) (hd : 1 ≤ d) (hd2 : d ≤ 60) : Gz (fun z => z.1 = (1 : Int32) ∧ SS e n t z.2 R) (ok_L_pred B (Int32.ofNat d)) (f_L_pred B (Int32.ofNat d)) := by
  have hn : n ≤ 8 := h.2.1.1.1
  have ht : t ≤ 10 := h.2.1.2.1.1
  have e1 := acn h.1
  have e2 := tcn h.1
  have ka : ∀ k, k ≤ 10 → okA (Int32.ofNat k) := by
    intro k hk
    refine ⟨?_, ?_⟩
    · rw [i32_lt, ofN_toInt (by omega), lit.1]
      omega
    · rw [ix_o (by omega)]
      exact hk
  have g : Fg 193 197 B (arB B (Int32.ofNat n) (Int32.ofNat t)) := by
    refine ⟨rfl, fun q k hq => ⟨?_, rfl, ?_⟩⟩
    · unfold arB
      rw [bi_sbi, if_neg (by omega), bi_sbi, if_neg (by omega), bi_sbi, if_neg (by omega), bi_sbi, if_neg (by omega)]
      rfl
    · unfold arB
      simp only [ba_sbi, ba_saf]
      rw [if_neg (by omega), if_neg (by omega), if_neg (by omega), if_neg (by omega)]
  have h2 := SS_Fg h g (by omega) (by omega)
  have l2 : Tl n t (arB B (Int32.ofNat n) (Int32.ofNat t)) := ⟨rfl, rfl, rfl, rfl⟩
  unfold f_L_pred ok_L_pred
  rw [e1, e2]
  generalize arB B (Int32.ofNat n) (Int32.ofNat t) = C at h2 l2
  suffices hh : Gz (fun z => z.1 = (1 : Int32) ∧ SS e n t z.2 R) (ok_L_arePredictionsRight C (Int32.ofNat d) (Int32.ofNat n) (Int32.ofNat t)) (f_L_arePredictionsRight C (Int32.ofNat d) (Int32.ofNat n) (Int32.ofNat t)) from ⟨⟨ka n (by omega), ka t ht, hh.1⟩, hh.2⟩
  have J := pred_J h2 l2 hd hd2
  obtain ⟨b1, b2, b3⟩ := Ti_n h2.1
  have b1 : bi C (0 + 1) 0 = Int32.ofNat n := b1
  have flt : ∀ (x y kI : Int32) (k : Nat), f_X3_balanceAfterFault 0 C x y = kI → f_X6_raise C kI = (k, 0, C) → ¬ k = 0 → ok_X6_balanceAfter C x y ∧ f_X6_balanceAfter C x y = (k, 0, C) := by
    intro x y kI k q1 q2 q3
    refine ⟨?_, ?_⟩
    · intro r hr z hz h0
      rw [hz, hr, q1, q2] at h0
      exact absurd h0 q3
    · unfold f_X6_balanceAfter
      rw [nm_eq, q1, nm_eq, q2]
      exact if_neg q3
  obtain ⟨u1, u2⟩ := flt (Int32.ofNat n) 1 1 1 (argf_1 (p := 0) (lo := 0) (hi := 60) b1 (by omega) (nacc_n hn)) rfl (by decide)
  obtain ⟨A1, A2⟩ := ask_2 (x3 := 1) u1 u2 (by omega)
  unfold f_L_arePredictionsRight ok_L_arePredictionsRight f_L_arePredictionsRight_S ok_L_arePredictionsRight_S
  refine G_ka A1 A2 (G_pos rfl ?_)
  by_cases h0 : n = 0
  · have w0 : Int32.ofNat n = 0 := by rw [h0]; rfl
    exact G_pos w0 J
  · have w0 : ¬ Int32.ofNat n = 0 := by
      rw [show (0 : Int32) = Int32.ofNat 0 from rfl, ofN_inj (by omega) (by omega)]
      exact h0
    have ac0 : acc n 0 := by
      have := o_acc (n := n) (i := 0) (by omega) hn
      exact this
    obtain ⟨u3, u4⟩ := flt 0 61 2 2 (argf_2 (p := 0) (lo := 0) (hi := 60) b1 (by omega) ac0 (by decide)) rfl (by decide)
    obtain ⟨u5, u6⟩ := flt 0 (-1) 2 2 (argf_2 (p := 0) (lo := 0) (hi := 60) b1 (by omega) ac0 (by decide)) rfl (by decide)
    obtain ⟨B1, B2⟩ := ask_2 u3 u4 (by omega)
    obtain ⟨C1, C2⟩ := ask_2 u5 u6 (by omega)
    obtain ⟨o, v, f⟩ := bal_n h2 (a := 0) (d := 0) (by omega) (by omega)
    have o : ok_X6_balanceAfter_n C 0 0 := o
    have v : (f_X6_balanceAfter_n C 0 0).1 = R (13 + 4 * 0) := v
    have f : Fg 16 32 C (f_X6_balanceAfter_n C 0 0).2 := f
    have h3 := SS_Fg h2 f (by omega) (by omega)
    have l3 := Tl_Fg l2 f (by omega)
    have J3 := pred_J h3 l3 hd hd2
    have o2 : ok_X6_balanceOf_n (f_X6_balanceAfter_n C 0 0).2 0 := ⟨reqAn h3.1 (a := 0) (by omega), in_o (a := 0) (by omega) (by omega)⟩
    have v2 : f_X6_balanceOf_n (f_X6_balanceAfter_n C 0 0).2 0 = R (13 + 4 * 0) := Ti_b h3.1 (i := 0) (by omega)
    refine G_neg w0 (G_ka B1 B2 (G_pos rfl (G_ka C1 C2 (G_pos rfl (G_ka o rfl (G_ka o2 v2 (G_pos v J3)))))))
