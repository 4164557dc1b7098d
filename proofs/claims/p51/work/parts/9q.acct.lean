/-! p51: the statement is the line; each account is right -/
theorem ch128 {c : Nat} (h : c < 128) : ((Int32.toUInt32 (Int32.ofNat c &&& 255) % 65536).toInt32) = Int32.ofNat c ∧ ((Int32.toUInt32 (Int32.ofNat c) % 65536).toInt32) = Int32.ofNat c ∧ narrow .char (.int (Int32.ofNat c)) = .int (Int32.ofNat c) := by
  have : ∀ c : Nat, c < 128 → ((Int32.toUInt32 (Int32.ofNat c &&& 255) % 65536).toInt32) = Int32.ofNat c ∧ ((Int32.toUInt32 (Int32.ofNat c) % 65536).toInt32) = Int32.ofNat c ∧ narrow .char (.int (Int32.ofNat c)) = .int (Int32.ofNat c) := by decide +kernel
  exact this c h
theorem shr0 : ∀ L, L < 17 → (Int32.ofNat L >>> ((0 : Int32) &&& 31)) = Int32.ofNat L ∧ mn (Int32.ofNat L) (Int32.ofNat 16 >>> ((0 : Int32) &&& 31)) = Int32.ofNat L := by decide +kernel
theorem by_128 {v : Int32} (h1 : 0 ≤ v.toInt) (h2 : v.toInt ≤ 127) : ((Int32.toUInt32 (v &&& 255) % 65536).toInt32) = v ∧ narrow .char (.int v) = .int v ∧ fits .byte (.int v) = true := by
  obtain ⟨c, hc, rfl⟩ := of_rng (n := 128) h1 (by omega)
  have : ∀ c : Nat, c < 128 → fits .byte (.int (Int32.ofNat c)) = true := by decide +kernel
  exact ⟨(ch128 hc).1, (ch128 hc).2.2, this c hc⟩
theorem line_L {L : Nat} {G : StB} {N : StM} (hL : L ≤ 16) (hz : bz G = 16) (h1 : bi G 191 3 = Int32.ofNat L) (h2 : bi G 194 9 = Int32.ofNat L) (hc : ∀ k, k < L → ba G 192 k = ma N 6 k ∧ ba G 194 k = ma N 6 k ∧ 0 ≤ (ma N 6 k).toInt ∧ (ma N 6 k).toInt ≤ 127) : ∀ (g nf k : Nat), k + g = L → g < nf → Gz (fun v => v = 1) (ok_L_isLine_L17 nf G 1 (Int32.ofNat k)) (f_L_isLine_L17 nf G 1 (Int32.ofNat k)) := by
  have xL : ix (Int32.ofNat L) = L := ix_o (by omega)
  obtain ⟨s1, s2⟩ := shr0 L (by omega)
  have el : f_J0_length_8abf5_W G = Int32.ofNat L := by
    unfold f_J0_length_8abf5_W
    rw [nm_eq, h2, xL]
    exact s1
  intro g
  induction g with
  | zero =>
    intro nf k hk hnf
    obtain ⟨nf, rfl⟩ : ∃ q, nf = q + 1 := ⟨nf - 1, by omega⟩
    have c : Int32.ofNat L ≤ Int32.ofNat k := by
      rw [le_ofN (by omega) (by omega)]
      omega
    unfold f_L_isLine_L17 ok_L_isLine_L17
    exact G_as el (G_pos c ⟨trivial, rfl⟩)
  | succ g ih =>
    intro nf k hk hnf
    obtain ⟨nf, rfl⟩ : ∃ q, nf = q + 1 := ⟨nf - 1, by omega⟩
    have c : ¬ Int32.ofNat L ≤ Int32.ofNat k := by
      rw [le_ofN (by omega) (by omega)]
      omega
    have hkL : k < L := by omega
    obtain ⟨c1, c2, c3, c4⟩ := hc k hkL
    obtain ⟨b1, b2, -⟩ := by_128 c3 c4
    have xk : ix (Int32.ofNat k) = k := ix_o (by omega)
    have n0 : ¬ Int32.ofNat k < 0 := by
      rw [i32_lt, ofN_toInt (by omega), lit.1]
      omega
    have lt : Int32.ofNat k < Int32.ofNat L := (lt_ofN (by omega) (by omega)).mpr hkL
    have e0 : f_J4_length_8abf5 G = Int32.ofNat L := h1
    have e1 : f_J4_charAt_5068e G (Int32.ofNat k) = ma N 6 k := by
      show ((Int32.toUInt32 (ba G 192 (ix (Int32.ofNat k)) &&& 255) % 65536).toInt32) = _
      rw [xk, c1]
      exact b1
    have o1 : ok_J4_charAt_5068e G (Int32.ofNat k) := by
      refine ⟨?_, ?_⟩
      · intro v hv
        rw [hv, h1, hz, s2, xk, c1, b1]
        exact ⟨⟨n0, lt⟩, in_o (by omega) (by omega), b2⟩
      · intro r hr
        have : r = ma N 6 k := hr.trans e1
        rw [this]
        exact b2
    have o2 : ok_X6_statementAt_n G (Int32.ofNat k) := by
      refine ⟨fun h => n0 h, fun _ => ?_⟩
      intro r2 hr2
      rw [hr2, e0]
      refine ⟨fun _ => ⟨o1, ?_⟩, fun h => h lt⟩
      intro r hr
      rw [hr, e1]
      exact b2
    have f2 : f_X6_statementAt_n G (Int32.ofNat k) = ma N 6 k := by
      unfold f_X6_statementAt_n
      rw [if_neg n0, nm_eq, e0, if_pos lt, nm_eq]
      exact e1
    have f3 : f_J0_charAt_5068e_W G (Int32.ofNat k) = ma N 6 k := by
      show ((Int32.toUInt32 (ba G 194 (ix (Int32.ofNat k)) &&& 255) % 65536).toInt32) = _
      rw [xk, c2]
      exact b1
    have o3 : ok_J0_charAt_5068e_W G (Int32.ofNat k) := by
      intro r hr
      refine ⟨by rw [hr]; exact (by decide : ¬ (1 : Int32) = 0), ?_, ?_⟩
      · unfold ok_J1_charAt_3b067_W
        rw [h2, xL, xk, c2, b1]
        exact ⟨⟨n0, lt⟩, in_o hkL (by omega), b2⟩
      · intro r4 hr4
        have : r4 = ma N 6 k := hr4.trans f3
        rw [this]
        exact b2
    have r1 := ih nf (k + 1) (by omega) (by omega)
    rw [← oad1] at r1
    unfold f_L_isLine_L17 ok_L_isLine_L17
    exact G_as el (G_neg c (G_neg (by decide) (G_ka o2 f2 (G_ka o3 f3 (G_pos rfl r1)))))
theorem line_C {e n t L : Nat} {B B1 E : StB} {R : Nat → Int32} {N : StM} (h : SS e n t B R) (hL : L ≤ 15) (w : Wt L B M0 B1 N) (y : WtD L B1 M0 E N) : okStr E ∧ (ok_L_isLine (tsB E) (Int32.ofNat L) ∧ f_L_isLine (tsB E) (Int32.ofNat L) = 1) ∧ SS e n t (tsB E) R := by
  have xL : ix (Int32.ofNat L) = L := ix_o (by omega)
  obtain ⟨w1, w2, w3, w4, -⟩ := w
  obtain ⟨y1, y2, y3, y4, -⟩ := y
  have ba4 : ∀ k, k < L → ba (tsB E) 194 k = ba E 194 k := by
    intro k hk
    unfold tsB
    rw [ba_sbi, ba_saf, if_pos rfl, y1, xL]
    show (if 0 ≤ k ∧ k < 0 + L then ba E 194 (0 + (k - 0)) else 0) = _
    rw [if_pos (by omega)]
    exact congrArg (ba E 194) (by omega)
  have g : Fg 193 195 E (tsB E) := by
    refine ⟨rfl, fun q k hq => ⟨?_, rfl, ?_⟩⟩
    · unfold tsB
      rw [bi_sbi, if_neg (by omega)]
      rfl
    · unfold tsB
      rw [ba_sbi, ba_saf, if_neg (by omega)]
  have gg := Fg_t y4 g
  have hG := SS_Fg (SS_st h w4 w1 (by omega)) gg (by omega) (by omega)
  have t2 : bi (tsB E) 194 9 = Int32.ofNat L := by
    unfold tsB
    rw [bi_sbi, if_pos ⟨rfl, rfl⟩, y1]
  have t1 : bi (tsB E) 191 3 = Int32.ofNat L := (gg.2 191 3 (by omega)).1.trans w1
  obtain ⟨l1, l2⟩ := line_L (G := tsB E) (N := N) (by omega) (gg.1.trans w2) t1 t2 (fun k hk => ⟨(gg.2 192 k (by omega)).2.2.trans (w3 k hk).1, (ba4 k hk).trans (y3 k hk).1, (w3 k hk).2⟩) L 20 0 (by omega) (by omega)
  have l1 : ok_L_isLine_L17 20 (tsB E) 1 0 := l1
  have l2 : f_L_isLine_L17 20 (tsB E) 1 0 = 1 := l2
  have el : f_J0_length_8abf5_W (tsB E) = Int32.ofNat L := by
    unfold f_J0_length_8abf5_W
    rw [nm_eq, t2, xL]
    exact (shr0 L (by omega)).1
  refine ⟨?_, ?_, hG⟩
  · unfold okStr
    rw [y1, xL, y2, ofN_toInt (by omega)]
    refine ⟨by omega, by omega, by omega, fun i hi => ?_⟩
    rw [(y3 i hi).1]
    exact (by_128 (y3 i hi).2.1 (y3 i hi).2.2).2.2
  · have : Gz (fun v => v = 1) (ok_L_isLine (tsB E) (Int32.ofNat L)) (f_L_isLine (tsB E) (Int32.ofNat L)) := by
      unfold f_L_isLine ok_L_isLine
      refine G_as el (G_pos rfl ?_)
      unfold f_L_isLine_J13 ok_L_isLine_J13
      exact ⟨⟨l1, fun z hz => by rw [hz]; exact nar01 (Or.inr l2)⟩, l2⟩
    exact this
theorem int_eq {e n t k : Nat} {R : Nat → Int32} (hR : RB e (60 * e) n t 0 0 R) (hk : k < n) : f_L_interest (R (12 + 4 * k)) (R (13 + 4 * k)) (R (14 + 4 * k)) (R (15 + 4 * k)) = ern R k := by
  obtain ⟨k1, k2, k3, k4, k5, k6, k7, k8⟩ := bA_at hR.1 hk
  obtain ⟨kd, hkd, ekd⟩ := of_rng (n := 4) k1 (by omega)
  have hh : kd = 0 ∨ kd = 1 ∨ kd = 2 ∨ kd = 3 := by omega
  unfold ern f_L_interest f_L_interest_J80
  rw [ekd]
  rcases hh with rfl | rfl | rfl | rfl
  · rw [nm_eq, if_neg (by decide), if_neg (by decide)]
    show _ = (if (0 : Int32) = 0 then _ else _)
    rw [if_pos rfl]
    by_cases c : R (13 + 4 * k) < 0
    · rw [if_pos c, if_pos c, if_neg (by decide)]
    · rw [if_neg c, if_neg c, if_pos (by rfl)]
  · rw [nm_eq, if_pos (by rfl), if_neg (by decide), if_pos (by rfl)]
  · have e1 : ¬ Int32.ofNat 2 = 1 := by decide
    have e3 : ¬ Int32.ofNat 2 = 3 := by decide
    have e0 : ¬ Int32.ofNat 2 = 0 := by decide
    have e2 : Int32.ofNat 2 = 2 := rfl
    by_cases c : R (13 + 4 * k) < 0
    · simp only [nm_eq, if_neg e1, if_neg e3, if_neg e0, if_pos e2, if_pos c]
    · simp only [nm_eq, if_neg e1, if_neg e3, if_neg e0, if_pos e2, if_neg c]
  · have e1 : ¬ Int32.ofNat 3 = 1 := by decide
    have e3 : Int32.ofNat 3 = 3 := rfl
    have e0 : ¬ Int32.ofNat 3 = 0 := by decide
    have e2 : ¬ Int32.ofNat 3 = 2 := by decide
    have n1 : ¬ (0 : Int32) = 1 := by decide
    have n2 : ¬ (1 : Int32) = 0 := by decide
    rcases k3 with k3 | k3
    · simp only [nm_eq, if_neg e1, if_pos e3, if_neg e0, if_neg e2, k3, if_neg n1, if_true]
    · simp only [nm_eq, if_neg e1, if_pos e3, if_neg e0, if_neg e2, k3, if_neg n2, if_true]
def sL (R : Nat → Int32) : Nat → Int64
  | 0 => 0
  | k + 1 => sL R k + (R (13 + 4 * k)).toInt64
theorem acct_L {e n t : Nat} {R : Nat → Int32} (he : e ≤ 100) : ∀ (g nf k : Nat) (B : StB), k + g = n → g < nf → SS e n t B R → Gz (fun z : Int64 × Int32 × StB => z.1 = sL R n ∧ z.2.1 = 1 ∧ SS e n t z.2.2 R) (ok_L_areAccountsRight_L69 nf B (Int32.ofNat n) (sL R k) 1 (Int32.ofNat k)) (f_L_areAccountsRight_L69 nf B (Int32.ofNat n) (sL R k) 1 (Int32.ofNat k)) := by
  intro g
  induction g with
  | zero =>
    intro nf k B hk hnf h
    obtain ⟨nf, rfl⟩ : ∃ q, nf = q + 1 := ⟨nf - 1, by omega⟩
    have hn : n ≤ 8 := h.2.1.1.1
    have c : Int32.ofNat n ≤ Int32.ofNat k := by
      rw [le_ofN (by omega) (by omega)]
      omega
    have hkn : k = n := by omega
    unfold f_L_areAccountsRight_L69 ok_L_areAccountsRight_L69
    refine G_pos c ⟨trivial, ?_, rfl, h⟩
    rw [hkn]
  | succ g ih =>
    intro nf k B hk hnf h
    obtain ⟨nf, rfl⟩ : ∃ q, nf = q + 1 := ⟨nf - 1, by omega⟩
    have hT := h.1
    have hR := h.2.1
    have hn : n ≤ 8 := hR.1.1
    have hkn : k < n := by omega
    have c : ¬ Int32.ofNat n ≤ Int32.ofNat k := by
      rw [le_ofN (by omega) (by omega)]
      omega
    obtain ⟨k1, k2, k3, k4, k5, k6, k7, k8⟩ := bA_at hR.1 hkn
    obtain ⟨kd, hkd, ekd⟩ := of_rng (n := 4) k1 (by omega)
    have xk : ix (Int32.ofNat k) = k := ix_o (by omega)
    have vk : vp_in (Int32.ofNat k) 8 := in_o (by omega) (by omega)
    have ro := reqAn hT hkn
    have fB : f_X6_balanceOf_n B (Int32.ofNat k) = R (13 + 4 * k) := by
      unfold f_X6_balanceOf_n
      rw [xk]
      exact Ti_b hT hkn
    have fL : f_X6_limitOf_n B (Int32.ofNat k) = R (14 + 4 * k) := by
      unfold f_X6_limitOf_n
      rw [xk]
      exact Ti_l hT hkn
    have fK : f_X6_kindOf_n B (Int32.ofNat k) = R (12 + 4 * k) := by
      unfold f_X6_kindOf_n
      rw [xk]
      exact Ti_k hT hkn
    have tch : ∀ C, SS e n t C R → ok_X6_wasTouched_n C (Int32.ofNat k) ∧ f_X6_wasTouched_n C (Int32.ofNat k) = R (15 + 4 * k) := by
      intro C hC
      have e5 : ba C 5 (ix (Int32.ofNat k)) = R (15 + 4 * k) := by
        rw [xk]
        exact hC.1.1.2.2.2.2.2.2 k hkn
      refine ⟨⟨reqAn hC.1 hkn, vk, ?_⟩, e5⟩
      rw [e5]
      exact nar01 k3
    obtain ⟨oT, fT⟩ := tch B h
    obtain ⟨av, oav⟩ := av_C (p := 0) hT hkn
    have oA : ok_X6_availableIn_n B (Int32.ofNat k) := ⟨ro, oav⟩
    have fA : f_X6_availableIn_n B (Int32.ofNat k) = R (13 + 4 * k) + R (14 + 4 * k) := av
    obtain ⟨eI, oI⟩ := ern_C (p := 0) hT hR.1 hkn
    have oI : ok_X6_interestOf_n B (Int32.ofNat k) := ⟨ro, oI⟩
    have fI : f_X6_interestOf_n B (Int32.ofNat k) = ern R k := eI
    have vI := int_eq hR hkn
    have hS := hR.2.2
    unfold bS at hS
    rw [if_neg (by omega)] at k8
    have wn : ¬ R (13 + 4 * k) + R (14 + 4 * k) < 0 := by
      rw [i32_lt, i32_add (by omega) (by omega), lit.1]
      omega
    obtain ⟨L, N, hL, ⟨st1, st2, st3⟩, law⟩ := stat_C h hkn he
    have xkd : ix (R (12 + 4 * k)) = kd := by rw [ekd]; exact ix_o (by omega)
    rw [xkd] at law
    have again : ∀ C, SS e n t C R → Gz (fun z : Int64 × Int32 × StB => z.1 = sL R n ∧ z.2.1 = 1 ∧ SS e n t z.2.2 R) (ok_L_areAccountsRight_L69 nf C (Int32.ofNat n) (sL R k + (R (13 + 4 * k)).toInt64) 1 (Int32.ofNat k + 1)) (f_L_areAccountsRight_L69 nf C (Int32.ofNat n) (sL R k + (R (13 + 4 * k)).toInt64) 1 (Int32.ofNat k + 1)) := by
      intro C hC
      rw [oad1]
      exact ih nf (k + 1) C (by omega) (by omega) hC
    unfold f_L_areAccountsRight_L69 ok_L_areAccountsRight_L69
    refine G_neg c (G_ka ⟨ro, vk⟩ fB (G_ka ⟨ro, vk⟩ fL (G_ka ⟨ro, vk⟩ (fK.trans ekd) ?_)))
    have fKd := fK.trans ekd
    have vI : f_L_interest (Int32.ofNat kd) (R (13 + 4 * k)) (R (14 + 4 * k)) (R (15 + 4 * k)) = ern R k := by rw [← ekd]; exact vI
    have hh : kd = 0 ∨ kd = 1 ∨ kd = 2 ∨ kd = 3 := by omega
    rcases hh with rfl | rfl | rfl | rfl
    · refine G_pos rfl (G_as rfl (G_neg (by decide) (G_ka oA fA (G_pos rfl (G_neg wn (G_ka oI fI (G_ka ⟨ro, vk⟩ fKd (G_ka oT fT (G_as vI (G_pos rfl (G_ok st1 fun z hz => ?_)))))))))))
      have z1 : z.1 = Int32.ofNat L := by rw [hz]; exact st2
      have z2 : Wt L B M0 z.2 N := by rw [hz]; exact st3
      obtain ⟨⟨p1, p2, p3, p4, p5, p6⟩, gF, e8, e7⟩ := law 1 z.2 ⟨rfl, rfl⟩
      have hF := SS_Fg (SS_st h z2.2.2.2.1 z2.1 (by omega)) gF (by omega) (by omega)
      obtain ⟨oT2, fT2⟩ := tch _ hF
      refine G_as rfl (G_ka p1 rfl (G_ka p2 rfl (G_ka p3 rfl (G_ka p4 rfl (G_ka p5 rfl (G_ka p6 rfl (G_ka oT2 fT2 (G_ite (fun h0 => ?_) (fun h0 => ?_)))))))))
      · obtain ⟨q1, q2⟩ := e8 h0
        obtain ⟨t1, ⟨t2, t3⟩, t4⟩ := line_C h hL z2 q2
        rw [← z1] at t2 t3
        exact G_ka q1 rfl (G_ka t1 rfl (G_ka t2 t3 (G_neg (by decide) (again _ t4))))
      · obtain ⟨q1, q2⟩ := e7 h0
        obtain ⟨t1, ⟨t2, t3⟩, t4⟩ := line_C h hL z2 q2
        rw [← z1] at t2 t3
        exact G_ka q1 rfl (G_ka t1 rfl (G_ka t2 t3 (G_neg (by decide) (again _ t4))))
    · refine G_neg (by decide) (G_ka ⟨ro, vk⟩ fKd (G_pos rfl (G_as rfl (G_neg (by decide) (G_ka oA fA (G_pos rfl (G_neg wn (G_ka oI fI (G_ka ⟨ro, vk⟩ fKd (G_ka oT fT (G_as vI (G_pos rfl (G_ok st1 fun z hz => ?_)))))))))))))
      have z1 : z.1 = Int32.ofNat L := by rw [hz]; exact st2
      have z2 : Wt L B M0 z.2 N := by rw [hz]; exact st3
      obtain ⟨⟨p1, p2, p3, p4, p5, p6⟩, gF, e8, e7⟩ := law 2 z.2 ⟨rfl, rfl⟩
      have hF := SS_Fg (SS_st h z2.2.2.2.1 z2.1 (by omega)) gF (by omega) (by omega)
      obtain ⟨oT2, fT2⟩ := tch _ hF
      refine G_as rfl (G_ka p1 rfl (G_ka p2 rfl (G_ka p3 rfl (G_ka p4 rfl (G_ka p5 rfl (G_ka p6 rfl (G_ka oT2 fT2 (G_ite (fun h0 => ?_) (fun h0 => ?_)))))))))
      · obtain ⟨q1, q2⟩ := e8 h0
        obtain ⟨t1, ⟨t2, t3⟩, t4⟩ := line_C h hL z2 q2
        rw [← z1] at t2 t3
        exact G_ka q1 rfl (G_ka t1 rfl (G_ka t2 t3 (G_neg (by decide) (again _ t4))))
      · obtain ⟨q1, q2⟩ := e7 h0
        obtain ⟨t1, ⟨t2, t3⟩, t4⟩ := line_C h hL z2 q2
        rw [← z1] at t2 t3
        exact G_ka q1 rfl (G_ka t1 rfl (G_ka t2 t3 (G_neg (by decide) (again _ t4))))
    · refine G_neg (by decide) (G_ka ⟨ro, vk⟩ fKd (G_neg (by decide) (G_ka ⟨ro, vk⟩ fKd (G_pos rfl (G_as rfl (G_neg (by decide) (G_ka oA fA (G_pos rfl (G_neg wn (G_ka oI fI (G_ka ⟨ro, vk⟩ fKd (G_ka oT fT (G_as vI (G_pos rfl (G_ok st1 fun z hz => ?_)))))))))))))))
      have z1 : z.1 = Int32.ofNat L := by rw [hz]; exact st2
      have z2 : Wt L B M0 z.2 N := by rw [hz]; exact st3
      obtain ⟨⟨p1, p2, p3, p4, p5, p6⟩, gF, e8, e7⟩ := law 3 z.2 ⟨rfl, rfl⟩
      have hF := SS_Fg (SS_st h z2.2.2.2.1 z2.1 (by omega)) gF (by omega) (by omega)
      obtain ⟨oT2, fT2⟩ := tch _ hF
      refine G_as rfl (G_ka p1 rfl (G_ka p2 rfl (G_ka p3 rfl (G_ka p4 rfl (G_ka p5 rfl (G_ka p6 rfl (G_ka oT2 fT2 (G_ite (fun h0 => ?_) (fun h0 => ?_)))))))))
      · obtain ⟨q1, q2⟩ := e8 h0
        obtain ⟨t1, ⟨t2, t3⟩, t4⟩ := line_C h hL z2 q2
        rw [← z1] at t2 t3
        exact G_ka q1 rfl (G_ka t1 rfl (G_ka t2 t3 (G_neg (by decide) (again _ t4))))
      · obtain ⟨q1, q2⟩ := e7 h0
        obtain ⟨t1, ⟨t2, t3⟩, t4⟩ := line_C h hL z2 q2
        rw [← z1] at t2 t3
        exact G_ka q1 rfl (G_ka t1 rfl (G_ka t2 t3 (G_neg (by decide) (again _ t4))))
    · refine G_neg (by decide) (G_ka ⟨ro, vk⟩ fKd (G_neg (by decide) (G_ka ⟨ro, vk⟩ fKd (G_neg (by decide) (G_as rfl (G_neg (by decide) (G_ka oA fA (G_pos rfl (G_neg wn (G_ka oI fI (G_ka ⟨ro, vk⟩ fKd (G_ka oT fT (G_as vI (G_pos rfl (G_ok st1 fun z hz => ?_)))))))))))))))
      have z1 : z.1 = Int32.ofNat L := by rw [hz]; exact st2
      have z2 : Wt L B M0 z.2 N := by rw [hz]; exact st3
      obtain ⟨⟨p1, p2, p3, p4, p5, p6⟩, gF, e8, e7⟩ := law 4 z.2 ⟨rfl, rfl⟩
      have hF := SS_Fg (SS_st h z2.2.2.2.1 z2.1 (by omega)) gF (by omega) (by omega)
      obtain ⟨oT2, fT2⟩ := tch _ hF
      refine G_as rfl (G_ka p1 rfl (G_ka p2 rfl (G_ka p3 rfl (G_ka p4 rfl (G_ka p5 rfl (G_ka p6 rfl (G_ka oT2 fT2 (G_ite (fun h0 => ?_) (fun h0 => ?_)))))))))
      · obtain ⟨q1, q2⟩ := e8 h0
        obtain ⟨t1, ⟨t2, t3⟩, t4⟩ := line_C h hL z2 q2
        rw [← z1] at t2 t3
        exact G_ka q1 rfl (G_ka t1 rfl (G_ka t2 t3 (G_neg (by decide) (again _ t4))))
      · obtain ⟨q1, q2⟩ := e7 h0
        obtain ⟨t1, ⟨t2, t3⟩, t4⟩ := line_C h hL z2 q2
        rw [← z1] at t2 t3
        exact G_ka q1 rfl (G_ka t1 rfl (G_ka t2 t3 (G_neg (by decide) (again _ t4))))
