/-! p51: the transfers are right -/
theorem no_id {e n t : Nat} {R : Nat → Int32} (hR : RB e (60 * e) n t 0 0 R) : ∀ j, j < t → R (44 + 5 * j) ≠ -1 := by
  intro j hj h
  have := (hR.2.1.2.2.1 j hj).2.2.2.2.2.2.1
  rw [h, show (-1 : Int32).toInt = -1 from by decide] at this
  omega
theorem m1_lt : (-1 : Int32) < 0 := by decide
theorem nacc_n {n : Nat} (hn : n ≤ 8) : ¬ acc n (Int32.ofNat n) := by
  unfold acc
  rw [ofN_toInt (by omega)]
  omega
theorem nacc_m (n : Nat) : ¬ acc n (-1) := by
  unfold acc
  rw [show (-1 : Int32).toInt = -1 from by decide]
  omega
theorem trat_hi {n t : Nat} {B : StB} {R : Nat → Int32} (hT : Ti 0 n 0 0 t B 0 R) : ok_X6_transferAt B (Int32.ofNat t) ∧ f_X6_transferAt B (Int32.ofNat t) = (1, 0, B) := by
  obtain ⟨c1, -, ht, -⟩ := Ti_c hT
  have b0 : bi B 6 0 = Int32.ofNat t := c1
  have w0 : ¬ Int32.ofNat t < 0 := by
    rw [i32_lt, ofN_toInt (by omega), lit.1]
    omega
  have w1 : ¬ Int32.ofNat t < bi B 6 0 := by
    rw [b0, i32_lt]
    omega
  refine ⟨⟨fun _ => trivial, fun _ => ⟨fun h => absurd h w1, fun _ => trivial⟩⟩, ?_⟩
  unfold f_X6_transferAt
  rw [if_neg w0, if_neg w1]
theorem trat_lo (B : StB) : ok_X6_transferAt B (-1) ∧ f_X6_transferAt B (-1) = (1, 0, B) := by
  refine ⟨⟨fun _ => trivial, fun h => absurd m1_lt h⟩, ?_⟩
  unfold f_X6_transferAt
  rw [if_pos m1_lt]
theorem amt_lo {e n t : Nat} {B : StB} {R : Nat → Int32} (hT : Ti 0 n 0 0 t B 0 R) (hR : RB e (60 * e) n t 0 0 R) : (ok_X6_amountOf B (-1) ∧ f_X6_amountOf B (-1) = (5, 0, B)) ∧ (ok_X6_wouldBounce B (-1) ∧ f_X6_wouldBounce B (-1) = (5, 0, B)) := by
  obtain ⟨o, f, -⟩ := reqT (-1) hT (bT_uq hR.2.1)
  have f := f (no_id hR)
  refine ⟨⟨⟨o, ?_⟩, ?_⟩, ⟨⟨o, ?_⟩, ?_⟩⟩
  · intro z hz h9
    rw [hz, f] at h9
    exact absurd (show (5 : Nat) = 0 from h9) (by decide)
  · unfold f_X6_amountOf
    rw [nm_eq, f]
    rfl
  · intro z hz h9
    rw [hz, f] at h9
    exact absurd (show (5 : Nat) = 0 from h9) (by decide)
  · unfold f_X6_wouldBounce
    rw [nm_eq, f]
    rfl
theorem net_hi {n t : Nat} {B : StB} {R : Nat → Int32} (hT : Ti 0 n 0 0 t B 0 R) (y : Int32) : (ok_X6_netOf B (Int32.ofNat n) ∧ f_X6_netOf B (Int32.ofNat n) = (1, 0, B)) ∧ (ok_X6_leadsTo B (Int32.ofNat n) y ∧ f_X6_leadsTo B (Int32.ofNat n) y = (1, 0, B)) := by
  obtain ⟨b1, b2, b3⟩ := Ti_n hT
  have f := (reqA (B := B) b1 b3).2 (nacc_n b3)
  refine ⟨⟨?_, ?_⟩, ⟨?_, ?_⟩⟩
  · intro z hz h9
    rw [hz, f] at h9
    exact absurd (show (1 : Nat) = 0 from h9) (by decide)
  · unfold f_X6_netOf
    rw [nm_eq, f]
    rfl
  · intro z hz h9
    rw [hz, f] at h9
    exact absurd (show (1 : Nat) = 0 from h9) (by decide)
  · unfold f_X6_leadsTo
    rw [nm_eq, f]
    rfl
theorem trans_C {e n t : Nat} {B : StB} {R : Nat → Int32} (h : SS e n t B R) {x1 x2 : Int32} (hx : n ≠ 0 → acc n x1 ∧ acc n x2) : Gz (fun z => z.1 = (1 : Int32) ∧ SS e n t z.2 R) (ok_L_areTransfersRight B x1 x2) (f_L_areTransfersRight B x1 x2) := by
  have hT := h.1
  have hR := h.2.1
  have hn : n ≤ 8 := hR.1.1
  have ht : t ≤ 10 := hR.2.1.1
  obtain ⟨a1, a2⟩ := trat_hi hT
  obtain ⟨b1, b2⟩ := trat_lo B
  obtain ⟨⟨c1, c2⟩, d1, d2⟩ := amt_lo hT hR
  obtain ⟨⟨e1, e2⟩, g1, g2⟩ := net_hi hT 0
  obtain ⟨A1, A2⟩ := ask_3 (x3 := 0) a1 a2 (by omega)
  obtain ⟨B1, B2⟩ := ask_3 (x3 := 0) b1 b2 (by omega)
  obtain ⟨C1, C2⟩ := ask_4 (x3 := 0) c1 c2 (by omega)
  obtain ⟨D1, D2⟩ := ask_5 (x3 := 0) d1 d2 (by omega)
  obtain ⟨E1, E2⟩ := ask_6 (x3 := 0) e1 e2 (by omega)
  obtain ⟨G1, G2⟩ := ask_7 g1 g2 (by omega)
  obtain ⟨o1, o2⟩ := ord_L h x1 x2 (Int32.ofNat n) t 20 0 (by omega) (by omega)
  obtain ⟨n1, n2, n3⟩ := nets_L (e := e) (t := t) (R := R) x1 x2 n 20 0 B (by omega) (by omega) h
  unfold f_L_areTransfersRight ok_L_areTransfersRight
  refine G_as (acn hT) (G_as (tcn hT) (G_ka A1 A2 (G_pos rfl (G_ka B1 B2 (G_pos rfl (G_ka C1 C2 (G_pos rfl (G_ka D1 D2 (G_pos rfl (G_ka E1 E2 (G_pos rfl (G_ka G1 G2 (G_pos rfl ?_)))))))))))))
  unfold f_L_areTransfersRight_J93 ok_L_areTransfersRight_J93
  refine G_ka o1 o2 (G_ok n1 fun z hz => ?_)
  have z1 : z.1 = 1 := by rw [hz]; exact n2
  have z2 : SS e n t z.2 R := by rw [hz]; exact n3
  refine G_neg (by rw [z1]; decide) ?_
  by_cases h0 : n = 0
  · refine G_pos (by rw [h0]; rfl) ⟨trivial, rfl, z2⟩
  · obtain ⟨y1, y2⟩ := hx h0
    obtain ⟨a, ha, rfl⟩ := acc_o y1
    obtain ⟨b, hb, rfl⟩ := acc_o y2
    have w0 : ¬ Int32.ofNat n = 0 := by
      rw [show (0 : Int32) = Int32.ofNat 0 from rfl, ofN_inj (by omega) (by omega)]
      exact h0
    obtain ⟨p1, p2⟩ := con_n z2.1 z2.2.1 ha hb
    obtain ⟨q1, q2⟩ := lead_4T z2.1 z2.2.1 hb a ha
    refine G_neg w0 (G_ok p1 fun r66 h66 => ?_)
    rw [← h66] at p2
    refine ⟨q1, ?_⟩
    rw [nm_eq]
    by_cases c : r66 = f_L_leads_4 z.2 (Int32.ofNat a) (Int32.ofNat b) 4
    · rw [if_pos c]
      exact ⟨rfl, z2⟩
    · rw [if_neg c, nm_eq, tcn z2.1]
      by_cases h4 : t ≤ 4
      · exfalso
        have hi := con_iff (snd := sI R) (rcv := sJ R) (a := a) (t := t) (g := b) (fun k hk => by
          obtain ⟨-, ⟨j, hj, e2⟩, _⟩ := hR.2.1.2.2.1 k hk
          rw [sJ_eq e2 (by omega)]
          omega) h4
        rcases p2 with ⟨p2, p3⟩ | ⟨p2, p3⟩
        · rcases q2 with ⟨q2, q3⟩ | ⟨q2, q3⟩
          · exact c (p2.trans q2.symm)
          · exact q3 (hi.mp p3)
        · rcases q2 with ⟨q2, q3⟩ | ⟨q2, q3⟩
          · exact p3 (hi.mpr q3)
          · exact c (p2.trans q2.symm)
      · rw [if_neg (by rw [show (4 : Int32) = Int32.ofNat 4 from rfl, le_ofN (by omega) (by omega)]; exact h4)]
        exact ⟨rfl, z2⟩
